theorem wt_sub (ws : List Cond) (ps : List Nat) (hp : ws = ps.filterMap (fun i => lw_tbl[i]?)) (h : ws.all goodWord = true) : ∀ w ∈ ws, w ∈ wt_ := by
  intro w hw
  have h1 := List.all_eq_true.mp h w hw
  rw [hp] at hw
  obtain ⟨i, -, hi⟩ := List.mem_filterMap.mp hw
  exact wt_in hi h1
set_option maxRecDepth 20000 in
theorem cl_X0 : CL 0 RX0 TX0 10 tyX0 := ⟨rfl, by decide, wt_sub _ [388, 390, 392, 394, 396, 398, 400, 402, 404, 406] (by decide +kernel) (by decide +kernel), tyX0_ok, nmX0, rfl⟩
set_option maxRecDepth 20000 in
theorem cl_X1 : CL 1 RX1 TX1 7 tyX1 := ⟨rfl, by decide, wt_sub _ [192, 194, 196, 184, 186, 188, 190] (by decide +kernel) (by decide +kernel), tyX1_ok, nmX1, rfl⟩
set_option maxRecDepth 20000 in
theorem cl_X2 : CL 2 RX2 TX2 3 tyX2 := ⟨rfl, by decide, wt_sub _ [798, 800, 802] (by decide +kernel) (by decide +kernel), tyX2_ok, nmX2, rfl⟩
set_option maxRecDepth 20000 in
theorem cl_X3 : CL 3 RX3 TX3 5 tyX3 := ⟨rfl, by decide, wt_sub _ [212, 213, 214, 208, 210] (by decide +kernel) (by decide +kernel), tyX3_ok, nmX3, rfl⟩
set_option maxRecDepth 20000 in
theorem cl_X4 : CL 4 RX4 TX4 7 tyX4 := ⟨rfl, by decide, wt_sub _ [353, 355, 357, 359, 361, 363, 365] (by decide +kernel) (by decide +kernel), tyX4_ok, nmX4, rfl⟩
set_option maxRecDepth 20000 in
theorem cl_X5 : CL 5 RX5 TX5 3 tyX5 := ⟨rfl, by decide, wt_sub _ [331, 333, 335] (by decide +kernel) (by decide +kernel), tyX5_ok, nmX5, rfl⟩
set_option maxRecDepth 20000 in
theorem cl_X7 : CL 6 RX7 TX7 8 tyX7 := ⟨rfl, by decide, wt_sub _ [301, 303, 305, 307, 309, 311, 313, 315] (by decide +kernel) (by decide +kernel), tyX7_ok, nmX7, rfl⟩
set_option maxRecDepth 20000 in
theorem cl_X8 : CL 7 RX8 TX8 1 tyX8 := ⟨rfl, by decide, wt_sub _ [242] (by decide +kernel) (by decide +kernel), tyX8_ok, nmX8, rfl⟩
set_option maxRecDepth 20000 in
theorem cl_X9 : CL 8 RX9 TX9 5 tyX9 := ⟨rfl, by decide, wt_sub _ [228, 229, 230, 224, 226] (by decide +kernel) (by decide +kernel), tyX9_ok, nmX9, rfl⟩
set_option maxRecDepth 20000 in
theorem cl_X10 : CL 9 RX10 TX10 4 tyX10 := ⟨rfl, by decide, wt_sub _ [271, 273, 275, 277] (by decide +kernel) (by decide +kernel), tyX10_ok, nmX10, rfl⟩
set_option maxRecDepth 20000 in
theorem cl_X11 : CL 10 RX11 TX11 20 tyX11 := ⟨rfl, by decide, wt_sub _ [429, 431, 433, 435, 437, 439, 441, 443, 445, 447, 449, 451, 453, 455, 457, 459, 461, 463, 465, 467] (by decide +kernel) (by decide +kernel), tyX11_ok, nmX11, rfl⟩
set_option maxRecDepth 20000 in
theorem cl_X12 : CL 11 RX12 TX12 41 tyX12 := ⟨rfl, by decide, wt_sub _ [1410, 1412, 1414, 1416, 1418, 1420, 1422, 1424, 1426, 1428, 1430, 1432, 1434, 1436, 1438, 1440, 1442, 1444, 1446, 1448, 1450, 1452, 1454, 1456, 1458, 1460, 1462, 1464, 1466, 1468, 1470, 1472, 1474, 1476, 1478, 1480, 1482, 1484, 1486, 1488, 1490] (by decide +kernel) (by decide +kernel), tyX12_ok, nmX12, rfl⟩
theorem fl_X1_9_1 : FL RX1 9 1 3 (.array .int) true true := ⟨RX1, TX1, 7, tyX1, "SlitDrum$LanternReader", cl_X1, by decide, rfl, rfl, fun _ => rfl, wt_in (i := 170) (by decide +kernel) rfl, Or.inl rfl⟩
theorem fl_X1_15_1 : FL RX1 15 1 4 (.boolean) false true := ⟨RX1, TX1, 7, tyX1, "SlitDrum$LanternReader", cl_X1, by decide, rfl, rfl, fun _ => rfl, wt_in (i := 171) (by decide +kernel) rfl, Or.inl rfl⟩
theorem fl_X1_19_1 : FL RX1 19 1 5 (.array .int) true true := ⟨RX1, TX1, 7, tyX1, "SlitDrum$LanternReader", cl_X1, by decide, rfl, rfl, fun _ => rfl, wt_in (i := 172) (by decide +kernel) rfl, Or.inl rfl⟩
theorem fl_X1_22_1 : FL RX1 22 1 6 (.int) false true := ⟨RX1, TX1, 7, tyX1, "SlitDrum$LanternReader", cl_X1, by decide, rfl, rfl, fun _ => rfl, wt_in (i := 173) (by decide +kernel) rfl, Or.inl rfl⟩
theorem fl_X6_9_1 : FL RX6 9 1 0 (.array .int) false true := ⟨RX1, TX1, 7, tyX1, "SlitDrum$Reader", cl_X1, by decide, rfl, rfl, fun _ => rfl, wt_in (i := 174) (by decide +kernel) rfl, Or.inl rfl⟩
theorem fl_X6_9_3 : FL RX6 9 3 0 (.array .int) false true := ⟨RX3, TX3, 5, tyX3, "SlitDrum$Reader", cl_X3, by decide, rfl, rfl, fun _ => rfl, wt_in (i := 174) (by decide +kernel) rfl, Or.inl rfl⟩
theorem fl_X6_9_8 : FL RX6 9 8 0 (.array .int) false true := ⟨RX9, TX9, 5, tyX9, "SlitDrum$Reader", cl_X9, by decide, rfl, rfl, fun _ => rfl, wt_in (i := 174) (by decide +kernel) rfl, Or.inl rfl⟩
theorem fl_X6_15_1 : FL RX6 15 1 1 (.int) false true := ⟨RX1, TX1, 7, tyX1, "SlitDrum$Reader", cl_X1, by decide, rfl, rfl, fun _ => rfl, wt_in (i := 175) (by decide +kernel) rfl, Or.inl rfl⟩
theorem fl_X6_15_3 : FL RX6 15 3 1 (.int) false true := ⟨RX3, TX3, 5, tyX3, "SlitDrum$Reader", cl_X3, by decide, rfl, rfl, fun _ => rfl, wt_in (i := 175) (by decide +kernel) rfl, Or.inl rfl⟩
theorem fl_X6_15_8 : FL RX6 15 8 1 (.int) false true := ⟨RX9, TX9, 5, tyX9, "SlitDrum$Reader", cl_X9, by decide, rfl, rfl, fun _ => rfl, wt_in (i := 175) (by decide +kernel) rfl, Or.inl rfl⟩
theorem fl_X6_19_1 : FL RX6 19 1 2 (.int) false true := ⟨RX1, TX1, 7, tyX1, "SlitDrum$Reader", cl_X1, by decide, rfl, rfl, fun _ => rfl, wt_in (i := 176) (by decide +kernel) rfl, Or.inl rfl⟩
theorem fl_X6_19_3 : FL RX6 19 3 2 (.int) false true := ⟨RX3, TX3, 5, tyX3, "SlitDrum$Reader", cl_X3, by decide, rfl, rfl, fun _ => rfl, wt_in (i := 176) (by decide +kernel) rfl, Or.inl rfl⟩
theorem fl_X6_19_8 : FL RX6 19 8 2 (.int) false true := ⟨RX9, TX9, 5, tyX9, "SlitDrum$Reader", cl_X9, by decide, rfl, rfl, fun _ => rfl, wt_in (i := 176) (by decide +kernel) rfl, Or.inl rfl⟩
theorem fl_X9_23_8 : FL RX9 23 8 2 (.int) false false := ⟨RX9, TX9, 5, tyX9, "SlitDrum$StripReader", cl_X9, by decide, rfl, rfl, (fun h => by cases h), wt_in (i := 177) (by decide +kernel) rfl, Or.inr (wt_in (i := 178) (by decide +kernel) rfl)⟩
theorem fl_X1_79_1 : FL RX1 79 1 2 (.int) false false := ⟨RX1, TX1, 7, tyX1, "SlitDrum$LanternReader", cl_X1, by decide, rfl, rfl, (fun h => by cases h), wt_in (i := 179) (by decide +kernel) rfl, Or.inr (wt_in (i := 180) (by decide +kernel) rfl)⟩
theorem fl_X11_129_1 : FL RX11 129 1 2 (.int) false false := ⟨RX1, TX1, 7, tyX1, "SlitDrum$Reader", cl_X1, by decide, rfl, rfl, (fun h => by cases h), wt_in (i := 181) (by decide +kernel) rfl, Or.inl rfl⟩
theorem fl_X11_129_3 : FL RX11 129 3 2 (.int) false false := ⟨RX3, TX3, 5, tyX3, "SlitDrum$Reader", cl_X3, by decide, rfl, rfl, (fun h => by cases h), wt_in (i := 181) (by decide +kernel) rfl, Or.inl rfl⟩
theorem fl_X11_129_8 : FL RX11 129 8 2 (.int) false false := ⟨RX9, TX9, 5, tyX9, "SlitDrum$Reader", cl_X9, by decide, rfl, rfl, (fun h => by cases h), wt_in (i := 181) (by decide +kernel) rfl, Or.inl rfl⟩
theorem fl_X3_74_3 : FL RX3 74 3 2 (.int) false false := ⟨RX3, TX3, 5, tyX3, "SlitDrum$LawReader", cl_X3, by decide, rfl, rfl, (fun h => by cases h), wt_in (i := 182) (by decide +kernel) rfl, Or.inr (wt_in (i := 183) (by decide +kernel) rfl)⟩
theorem fl_X3_9_3 : FL RX3 9 3 3 (.array .int) true true := ⟨RX3, TX3, 5, tyX3, "SlitDrum$LawReader", cl_X3, by decide, rfl, rfl, fun _ => rfl, wt_in (i := 206) (by decide +kernel) rfl, Or.inl rfl⟩
theorem fl_X3_15_3 : FL RX3 15 3 4 (.int) false true := ⟨RX3, TX3, 5, tyX3, "SlitDrum$LawReader", cl_X3, by decide, rfl, rfl, fun _ => rfl, wt_in (i := 207) (by decide +kernel) rfl, Or.inl rfl⟩
theorem fl_X9_9_8 : FL RX9 9 8 3 (.array .int) true true := ⟨RX9, TX9, 5, tyX9, "SlitDrum$StripReader", cl_X9, by decide, rfl, rfl, fun _ => rfl, wt_in (i := 222) (by decide +kernel) rfl, Or.inl rfl⟩
theorem fl_X9_15_8 : FL RX9 15 8 4 (.int) false true := ⟨RX9, TX9, 5, tyX9, "SlitDrum$StripReader", cl_X9, by decide, rfl, rfl, fun _ => rfl, wt_in (i := 223) (by decide +kernel) rfl, Or.inl rfl⟩
theorem fl_X8_9_7 : FL RX8 9 7 0 (.array .int) true true := ⟨RX8, TX8, 1, tyX8, "SlitDrum$Strip", cl_X8, by decide, rfl, rfl, fun _ => rfl, wt_in (i := 241) (by decide +kernel) rfl, Or.inl rfl⟩
theorem fl_X10_7_9 : FL RX10 7 9 0 (.int) false true := ⟨RX10, TX10, 4, tyX10, "SlitDrum$Wheel", cl_X10, by decide, rfl, rfl, fun _ => rfl, wt_in (i := 258) (by decide +kernel) rfl, Or.inl rfl⟩
theorem fl_X1_109_9 : FL RX1 109 9 0 (.int) false false := ⟨RX10, TX10, 4, tyX10, "SlitDrum$Wheel", cl_X10, by decide, rfl, rfl, (fun h => by cases h), wt_in (i := 259) (by decide +kernel) rfl, Or.inl rfl⟩
theorem fl_X11_206_9 : FL RX11 206 9 0 (.int) false false := ⟨RX10, TX10, 4, tyX10, "SlitDrum$Wheel", cl_X10, by decide, rfl, rfl, (fun h => by cases h), wt_in (i := 260) (by decide +kernel) rfl, Or.inl rfl⟩
theorem fl_X10_13_9 : FL RX10 13 9 1 (.boolean) false true := ⟨RX10, TX10, 4, tyX10, "SlitDrum$Wheel", cl_X10, by decide, rfl, rfl, fun _ => rfl, wt_in (i := 261) (by decide +kernel) rfl, Or.inl rfl⟩
theorem fl_X1_114_9 : FL RX1 114 9 1 (.boolean) false false := ⟨RX10, TX10, 4, tyX10, "SlitDrum$Wheel", cl_X10, by decide, rfl, rfl, (fun h => by cases h), wt_in (i := 262) (by decide +kernel) rfl, Or.inl rfl⟩
theorem fl_X11_209_9 : FL RX11 209 9 1 (.boolean) false false := ⟨RX10, TX10, 4, tyX10, "SlitDrum$Wheel", cl_X10, by decide, rfl, rfl, (fun h => by cases h), wt_in (i := 263) (by decide +kernel) rfl, Or.inl rfl⟩
theorem fl_X10_17_9 : FL RX10 17 9 2 (.int) false true := ⟨RX10, TX10, 4, tyX10, "SlitDrum$Wheel", cl_X10, by decide, rfl, rfl, fun _ => rfl, wt_in (i := 264) (by decide +kernel) rfl, Or.inl rfl⟩
theorem fl_X0_55_9 : FL RX0 55 9 2 (.int) false false := ⟨RX10, TX10, 4, tyX10, "SlitDrum$Wheel", cl_X10, by decide, rfl, rfl, (fun h => by cases h), wt_in (i := 265) (by decide +kernel) rfl, Or.inl rfl⟩
theorem fl_X1_117_9 : FL RX1 117 9 2 (.int) false false := ⟨RX10, TX10, 4, tyX10, "SlitDrum$Wheel", cl_X10, by decide, rfl, rfl, (fun h => by cases h), wt_in (i := 266) (by decide +kernel) rfl, Or.inl rfl⟩
theorem fl_X11_157_9 : FL RX11 157 9 2 (.int) false false := ⟨RX10, TX10, 4, tyX10, "SlitDrum$Wheel", cl_X10, by decide, rfl, rfl, (fun h => by cases h), wt_in (i := 267) (by decide +kernel) rfl, Or.inl rfl⟩
theorem fl_X10_20_9 : FL RX10 20 9 3 (.int) false true := ⟨RX10, TX10, 4, tyX10, "SlitDrum$Wheel", cl_X10, by decide, rfl, rfl, fun _ => rfl, wt_in (i := 268) (by decide +kernel) rfl, Or.inl rfl⟩
theorem fl_X1_120_9 : FL RX1 120 9 3 (.int) false false := ⟨RX10, TX10, 4, tyX10, "SlitDrum$Wheel", cl_X10, by decide, rfl, rfl, (fun h => by cases h), wt_in (i := 269) (by decide +kernel) rfl, Or.inl rfl⟩
theorem fl_X11_212_9 : FL RX11 212 9 3 (.int) false false := ⟨RX10, TX10, 4, tyX10, "SlitDrum$Wheel", cl_X10, by decide, rfl, rfl, (fun h => by cases h), wt_in (i := 270) (by decide +kernel) rfl, Or.inl rfl⟩
theorem fl_X7_11_6 : FL RX7 11 6 0 (.array (.object "SlitDrum$Wheel")) true true := ⟨RX7, TX7, 8, tyX7, "SlitDrum$Scene", cl_X7, by decide, rfl, rfl, fun _ => rfl, wt_in (i := 280) (by decide +kernel) rfl, Or.inl rfl⟩
theorem fl_X1_106_6 : FL RX1 106 6 0 (.array (.object "SlitDrum$Wheel")) true false := ⟨RX7, TX7, 8, tyX7, "SlitDrum$Scene", cl_X7, by decide, rfl, rfl, (fun h => by cases h), wt_in (i := 281) (by decide +kernel) rfl, Or.inl rfl⟩
theorem fl_X11_153_6 : FL RX11 153 6 0 (.array (.object "SlitDrum$Wheel")) true false := ⟨RX7, TX7, 8, tyX7, "SlitDrum$Scene", cl_X7, by decide, rfl, rfl, (fun h => by cases h), wt_in (i := 282) (by decide +kernel) rfl, Or.inl rfl⟩
theorem fl_X7_17_6 : FL RX7 17 6 1 (.int) false true := ⟨RX7, TX7, 8, tyX7, "SlitDrum$Scene", cl_X7, by decide, rfl, rfl, fun _ => rfl, wt_in (i := 283) (by decide +kernel) rfl, Or.inl rfl⟩
theorem fl_X1_103_6 : FL RX1 103 6 1 (.int) false false := ⟨RX7, TX7, 8, tyX7, "SlitDrum$Scene", cl_X7, by decide, rfl, rfl, (fun h => by cases h), wt_in (i := 284) (by decide +kernel) rfl, Or.inl rfl⟩
theorem fl_X11_150_6 : FL RX11 150 6 1 (.int) false false := ⟨RX7, TX7, 8, tyX7, "SlitDrum$Scene", cl_X7, by decide, rfl, rfl, (fun h => by cases h), wt_in (i := 285) (by decide +kernel) rfl, Or.inl rfl⟩
theorem fl_X7_21_6 : FL RX7 21 6 2 (.int) false true := ⟨RX7, TX7, 8, tyX7, "SlitDrum$Scene", cl_X7, by decide, rfl, rfl, fun _ => rfl, wt_in (i := 286) (by decide +kernel) rfl, Or.inl rfl⟩
theorem fl_X1_86_6 : FL RX1 86 6 2 (.int) false false := ⟨RX7, TX7, 8, tyX7, "SlitDrum$Scene", cl_X7, by decide, rfl, rfl, (fun h => by cases h), wt_in (i := 287) (by decide +kernel) rfl, Or.inl rfl⟩
theorem fl_X11_186_6 : FL RX11 186 6 2 (.int) false false := ⟨RX7, TX7, 8, tyX7, "SlitDrum$Scene", cl_X7, by decide, rfl, rfl, (fun h => by cases h), wt_in (i := 288) (by decide +kernel) rfl, Or.inl rfl⟩
theorem fl_X7_24_6 : FL RX7 24 6 3 (.int) false true := ⟨RX7, TX7, 8, tyX7, "SlitDrum$Scene", cl_X7, by decide, rfl, rfl, fun _ => rfl, wt_in (i := 289) (by decide +kernel) rfl, Or.inl rfl⟩
theorem fl_X1_91_6 : FL RX1 91 6 3 (.int) false false := ⟨RX7, TX7, 8, tyX7, "SlitDrum$Scene", cl_X7, by decide, rfl, rfl, (fun h => by cases h), wt_in (i := 290) (by decide +kernel) rfl, Or.inl rfl⟩
theorem fl_X11_189_6 : FL RX11 189 6 3 (.int) false false := ⟨RX7, TX7, 8, tyX7, "SlitDrum$Scene", cl_X7, by decide, rfl, rfl, (fun h => by cases h), wt_in (i := 291) (by decide +kernel) rfl, Or.inl rfl⟩
theorem fl_X7_27_6 : FL RX7 27 6 4 (.int) false true := ⟨RX7, TX7, 8, tyX7, "SlitDrum$Scene", cl_X7, by decide, rfl, rfl, fun _ => rfl, wt_in (i := 292) (by decide +kernel) rfl, Or.inl rfl⟩
theorem fl_X1_94_6 : FL RX1 94 6 4 (.int) false false := ⟨RX7, TX7, 8, tyX7, "SlitDrum$Scene", cl_X7, by decide, rfl, rfl, (fun h => by cases h), wt_in (i := 293) (by decide +kernel) rfl, Or.inl rfl⟩
theorem fl_X11_192_6 : FL RX11 192 6 4 (.int) false false := ⟨RX7, TX7, 8, tyX7, "SlitDrum$Scene", cl_X7, by decide, rfl, rfl, (fun h => by cases h), wt_in (i := 294) (by decide +kernel) rfl, Or.inl rfl⟩
theorem fl_X7_30_6 : FL RX7 30 6 5 (.int) false true := ⟨RX7, TX7, 8, tyX7, "SlitDrum$Scene", cl_X7, by decide, rfl, rfl, fun _ => rfl, wt_in (i := 295) (by decide +kernel) rfl, Or.inl rfl⟩
theorem fl_X1_97_6 : FL RX1 97 6 5 (.int) false false := ⟨RX7, TX7, 8, tyX7, "SlitDrum$Scene", cl_X7, by decide, rfl, rfl, (fun h => by cases h), wt_in (i := 296) (by decide +kernel) rfl, Or.inl rfl⟩
theorem fl_X11_230_6 : FL RX11 230 6 5 (.int) false false := ⟨RX7, TX7, 8, tyX7, "SlitDrum$Scene", cl_X7, by decide, rfl, rfl, (fun h => by cases h), wt_in (i := 297) (by decide +kernel) rfl, Or.inl rfl⟩
theorem fl_X7_33_6 : FL RX7 33 6 6 (.array .int) true true := ⟨RX7, TX7, 8, tyX7, "SlitDrum$Scene", cl_X7, by decide, rfl, rfl, fun _ => rfl, wt_in (i := 298) (by decide +kernel) rfl, Or.inl rfl⟩
theorem fl_X7_37_6 : FL RX7 37 6 7 (.int) false true := ⟨RX7, TX7, 8, tyX7, "SlitDrum$Scene", cl_X7, by decide, rfl, rfl, fun _ => rfl, wt_in (i := 299) (by decide +kernel) rfl, Or.inl rfl⟩
theorem fl_X1_100_6 : FL RX1 100 6 7 (.int) false false := ⟨RX7, TX7, 8, tyX7, "SlitDrum$Scene", cl_X7, by decide, rfl, rfl, (fun h => by cases h), wt_in (i := 300) (by decide +kernel) rfl, Or.inl rfl⟩
theorem fl_X5_11_5 : FL RX5 11 5 0 (.array (.object "SlitDrum$Scene")) true true := ⟨RX5, TX5, 3, tyX5, "SlitDrum$Past", cl_X5, by decide, rfl, rfl, fun _ => rfl, wt_in (i := 327) (by decide +kernel) rfl, Or.inl rfl⟩
theorem fl_X5_17_5 : FL RX5 17 5 1 (.int) false true := ⟨RX5, TX5, 3, tyX5, "SlitDrum$Past", cl_X5, by decide, rfl, rfl, fun _ => rfl, wt_in (i := 328) (by decide +kernel) rfl, Or.inl rfl⟩
theorem fl_X5_21_5 : FL RX5 21 5 2 (.int) false true := ⟨RX5, TX5, 3, tyX5, "SlitDrum$Past", cl_X5, by decide, rfl, rfl, fun _ => rfl, wt_in (i := 329) (by decide +kernel) rfl, Or.inl rfl⟩
theorem fl_X11_420_5 : FL RX11 420 5 2 (.int) false false := ⟨RX5, TX5, 3, tyX5, "SlitDrum$Past", cl_X5, by decide, rfl, rfl, (fun h => by cases h), wt_in (i := 330) (by decide +kernel) rfl, Or.inl rfl⟩
theorem fl_X4_9_4 : FL RX4 9 4 0 (.array .int) true true := ⟨RX4, TX4, 7, tyX4, "SlitDrum$Notes", cl_X4, by decide, rfl, rfl, fun _ => rfl, wt_in (i := 344) (by decide +kernel) rfl, Or.inl rfl⟩
theorem fl_X4_15_4 : FL RX4 15 4 1 (.array .int) true true := ⟨RX4, TX4, 7, tyX4, "SlitDrum$Notes", cl_X4, by decide, rfl, rfl, fun _ => rfl, wt_in (i := 345) (by decide +kernel) rfl, Or.inl rfl⟩
theorem fl_X4_18_4 : FL RX4 18 4 2 (.array .boolean) true true := ⟨RX4, TX4, 7, tyX4, "SlitDrum$Notes", cl_X4, by decide, rfl, rfl, fun _ => rfl, wt_in (i := 346) (by decide +kernel) rfl, Or.inl rfl⟩
theorem fl_X4_22_4 : FL RX4 22 4 3 (.int) false true := ⟨RX4, TX4, 7, tyX4, "SlitDrum$Notes", cl_X4, by decide, rfl, rfl, fun _ => rfl, wt_in (i := 347) (by decide +kernel) rfl, Or.inl rfl⟩
theorem fl_X11_418_4 : FL RX11 418 4 3 (.int) false false := ⟨RX4, TX4, 7, tyX4, "SlitDrum$Notes", cl_X4, by decide, rfl, rfl, (fun h => by cases h), wt_in (i := 348) (by decide +kernel) rfl, Or.inl rfl⟩
theorem fl_X4_26_4 : FL RX4 26 4 4 (.array .int) true true := ⟨RX4, TX4, 7, tyX4, "SlitDrum$Notes", cl_X4, by decide, rfl, rfl, fun _ => rfl, wt_in (i := 349) (by decide +kernel) rfl, Or.inl rfl⟩
theorem fl_X4_29_4 : FL RX4 29 4 5 (.int) false true := ⟨RX4, TX4, 7, tyX4, "SlitDrum$Notes", cl_X4, by decide, rfl, rfl, fun _ => rfl, wt_in (i := 350) (by decide +kernel) rfl, Or.inl rfl⟩
theorem fl_X11_348_4 : FL RX11 348 4 5 (.int) false false := ⟨RX4, TX4, 7, tyX4, "SlitDrum$Notes", cl_X4, by decide, rfl, rfl, (fun h => by cases h), wt_in (i := 351) (by decide +kernel) rfl, Or.inl rfl⟩
theorem fl_X4_32_4 : FL RX4 32 4 6 (.array .int) true true := ⟨RX4, TX4, 7, tyX4, "SlitDrum$Notes", cl_X4, by decide, rfl, rfl, fun _ => rfl, wt_in (i := 352) (by decide +kernel) rfl, Or.inl rfl⟩
theorem fl_X0_9_0 : FL RX0 9 0 0 (.int) false true := ⟨RX0, TX0, 10, tyX0, "SlitDrum$Course", cl_X0, by decide, rfl, rfl, fun _ => rfl, wt_in (i := 378) (by decide +kernel) rfl, Or.inl rfl⟩
theorem fl_X0_15_0 : FL RX0 15 0 1 (.int) false true := ⟨RX0, TX0, 10, tyX0, "SlitDrum$Course", cl_X0, by decide, rfl, rfl, fun _ => rfl, wt_in (i := 379) (by decide +kernel) rfl, Or.inl rfl⟩
theorem fl_X0_23_0 : FL RX0 23 0 2 (.object "SlitDrum$Strip") false true := ⟨RX0, TX0, 10, tyX0, "SlitDrum$Course", cl_X0, by decide, rfl, rfl, fun _ => rfl, wt_in (i := 380) (by decide +kernel) rfl, Or.inl rfl⟩
theorem fl_X0_27_0 : FL RX0 27 0 3 (.object "SlitDrum$Law") false true := ⟨RX0, TX0, 10, tyX0, "SlitDrum$Course", cl_X0, by decide, rfl, rfl, fun _ => rfl, wt_in (i := 381) (by decide +kernel) rfl, Or.inl rfl⟩
theorem fl_X0_31_0 : FL RX0 31 0 4 (.int) false true := ⟨RX0, TX0, 10, tyX0, "SlitDrum$Course", cl_X0, by decide, rfl, rfl, fun _ => rfl, wt_in (i := 382) (by decide +kernel) rfl, Or.inl rfl⟩
theorem fl_X0_34_0 : FL RX0 34 0 5 (.array .int) true true := ⟨RX0, TX0, 10, tyX0, "SlitDrum$Course", cl_X0, by decide, rfl, rfl, fun _ => rfl, wt_in (i := 383) (by decide +kernel) rfl, Or.inl rfl⟩
theorem fl_X0_38_0 : FL RX0 38 0 6 (.array .int) true true := ⟨RX0, TX0, 10, tyX0, "SlitDrum$Course", cl_X0, by decide, rfl, rfl, fun _ => rfl, wt_in (i := 384) (by decide +kernel) rfl, Or.inl rfl⟩
theorem fl_X0_41_0 : FL RX0 41 0 7 (.array .int) true true := ⟨RX0, TX0, 10, tyX0, "SlitDrum$Course", cl_X0, by decide, rfl, rfl, fun _ => rfl, wt_in (i := 385) (by decide +kernel) rfl, Or.inl rfl⟩
theorem fl_X0_44_0 : FL RX0 44 0 8 (.int) false true := ⟨RX0, TX0, 10, tyX0, "SlitDrum$Course", cl_X0, by decide, rfl, rfl, fun _ => rfl, wt_in (i := 386) (by decide +kernel) rfl, Or.inl rfl⟩
theorem fl_X0_47_0 : FL RX0 47 0 9 (.int) false true := ⟨RX0, TX0, 10, tyX0, "SlitDrum$Course", cl_X0, by decide, rfl, rfl, fun _ => rfl, wt_in (i := 387) (by decide +kernel) rfl, Or.inl rfl⟩
theorem fl_X11_9_10 : FL RX11 9 10 0 (.array .int) true true := ⟨RX11, TX11, 20, tyX11, "SlitDrum", cl_X11, by decide, rfl, rfl, fun _ => rfl, wt_in (i := 409) (by decide +kernel) rfl, Or.inl rfl⟩
theorem fl_X11_13_10 : FL RX11 13 10 1 (.int) false true := ⟨RX11, TX11, 20, tyX11, "SlitDrum", cl_X11, by decide, rfl, rfl, fun _ => rfl, wt_in (i := 410) (by decide +kernel) rfl, Or.inl rfl⟩
theorem fl_X11_20_10 : FL RX11 20 10 2 (.object "SlitDrum$LanternReader") true true := ⟨RX11, TX11, 20, tyX11, "SlitDrum", cl_X11, by decide, rfl, rfl, fun _ => rfl, wt_in (i := 411) (by decide +kernel) rfl, Or.inl rfl⟩
theorem fl_X11_27_10 : FL RX11 27 10 3 (.object "SlitDrum$LawReader") true true := ⟨RX11, TX11, 20, tyX11, "SlitDrum", cl_X11, by decide, rfl, rfl, fun _ => rfl, wt_in (i := 412) (by decide +kernel) rfl, Or.inl rfl⟩
theorem fl_X11_34_10 : FL RX11 34 10 4 (.object "SlitDrum$StripReader") true true := ⟨RX11, TX11, 20, tyX11, "SlitDrum", cl_X11, by decide, rfl, rfl, fun _ => rfl, wt_in (i := 413) (by decide +kernel) rfl, Or.inl rfl⟩
theorem fl_X11_40_10 : FL RX11 40 10 5 (.array (.object "SlitDrum$Law")) true true := ⟨RX11, TX11, 20, tyX11, "SlitDrum", cl_X11, by decide, rfl, rfl, fun _ => rfl, wt_in (i := 414) (by decide +kernel) rfl, Or.inl rfl⟩
theorem fl_X11_44_10 : FL RX11 44 10 6 (.int) false true := ⟨RX11, TX11, 20, tyX11, "SlitDrum", cl_X11, by decide, rfl, rfl, fun _ => rfl, wt_in (i := 415) (by decide +kernel) rfl, Or.inl rfl⟩
theorem fl_X11_47_10 : FL RX11 47 10 7 (.int) false true := ⟨RX11, TX11, 20, tyX11, "SlitDrum", cl_X11, by decide, rfl, rfl, fun _ => rfl, wt_in (i := 416) (by decide +kernel) rfl, Or.inl rfl⟩
theorem fl_X11_52_10 : FL RX11 52 10 8 (.array (.object "SlitDrum$Strip")) true true := ⟨RX11, TX11, 20, tyX11, "SlitDrum", cl_X11, by decide, rfl, rfl, fun _ => rfl, wt_in (i := 417) (by decide +kernel) rfl, Or.inl rfl⟩
theorem fl_X11_56_10 : FL RX11 56 10 9 (.int) false true := ⟨RX11, TX11, 20, tyX11, "SlitDrum", cl_X11, by decide, rfl, rfl, fun _ => rfl, wt_in (i := 418) (by decide +kernel) rfl, Or.inl rfl⟩
theorem fl_X11_62_10 : FL RX11 62 10 10 (.object "SlitDrum$Strip") true true := ⟨RX11, TX11, 20, tyX11, "SlitDrum", cl_X11, by decide, rfl, rfl, fun _ => rfl, wt_in (i := 419) (by decide +kernel) rfl, Or.inl rfl⟩
theorem fl_X11_66_10 : FL RX11 66 10 11 (.int) false true := ⟨RX11, TX11, 20, tyX11, "SlitDrum", cl_X11, by decide, rfl, rfl, fun _ => rfl, wt_in (i := 420) (by decide +kernel) rfl, Or.inl rfl⟩
theorem fl_X11_69_10 : FL RX11 69 10 12 (.array .int) true true := ⟨RX11, TX11, 20, tyX11, "SlitDrum", cl_X11, by decide, rfl, rfl, fun _ => rfl, wt_in (i := 421) (by decide +kernel) rfl, Or.inl rfl⟩
theorem fl_X11_75_10 : FL RX11 75 10 13 (.object "SlitDrum$Scene") true true := ⟨RX11, TX11, 20, tyX11, "SlitDrum", cl_X11, by decide, rfl, rfl, fun _ => rfl, wt_in (i := 422) (by decide +kernel) rfl, Or.inl rfl⟩
theorem fl_X11_82_10 : FL RX11 82 10 14 (.object "SlitDrum$Past") true true := ⟨RX11, TX11, 20, tyX11, "SlitDrum", cl_X11, by decide, rfl, rfl, fun _ => rfl, wt_in (i := 423) (by decide +kernel) rfl, Or.inl rfl⟩
theorem fl_X11_86_10 : FL RX11 86 10 15 (.object "SlitDrum$Scene") true true := ⟨RX11, TX11, 20, tyX11, "SlitDrum", cl_X11, by decide, rfl, rfl, fun _ => rfl, wt_in (i := 424) (by decide +kernel) rfl, Or.inl rfl⟩
theorem fl_X11_89_10 : FL RX11 89 10 16 (.boolean) false true := ⟨RX11, TX11, 20, tyX11, "SlitDrum", cl_X11, by decide, rfl, rfl, fun _ => rfl, wt_in (i := 425) (by decide +kernel) rfl, Or.inl rfl⟩
theorem fl_X11_96_10 : FL RX11 96 10 17 (.object "SlitDrum$Notes") true true := ⟨RX11, TX11, 20, tyX11, "SlitDrum", cl_X11, by decide, rfl, rfl, fun _ => rfl, wt_in (i := 426) (by decide +kernel) rfl, Or.inl rfl⟩
theorem fl_X11_102_10 : FL RX11 102 10 18 (.array (.object "SlitDrum$Course")) true true := ⟨RX11, TX11, 20, tyX11, "SlitDrum", cl_X11, by decide, rfl, rfl, fun _ => rfl, wt_in (i := 427) (by decide +kernel) rfl, Or.inl rfl⟩
theorem fl_X11_106_10 : FL RX11 106 10 19 (.long) false true := ⟨RX11, TX11, 20, tyX11, "SlitDrum", cl_X11, by decide, rfl, rfl, fun _ => rfl, wt_in (i := 428) (by decide +kernel) rfl, Or.inl rfl⟩
theorem fl_X2_17_2 : FL RX2 17 2 0 (.array .int) true true := ⟨RX2, TX2, 3, tyX2, "SlitDrum$Law", cl_X2, by decide, rfl, rfl, fun _ => rfl, wt_in (i := 795) (by decide +kernel) rfl, Or.inl rfl⟩
theorem fl_X2_7_2 : FL RX2 7 2 1 (.array .int) true true := ⟨RX2, TX2, 3, tyX2, "SlitDrum$Law", cl_X2, by decide, rfl, rfl, fun _ => rfl, wt_in (i := 796) (by decide +kernel) rfl, Or.inl rfl⟩
theorem fl_X2_13_2 : FL RX2 13 2 2 (.int) false true := ⟨RX2, TX2, 3, tyX2, "SlitDrum$Law", cl_X2, by decide, rfl, rfl, fun _ => rfl, wt_in (i := 797) (by decide +kernel) rfl, Or.inl rfl⟩
theorem fl_X12_93_11 : FL RX12 93 11 0 (.int) false true := ⟨RX12, TX12, 41, tyX12, "SlitDrumModel", cl_X12, by decide, rfl, rfl, fun _ => rfl, wt_in (i := 1369) (by decide +kernel) rfl, Or.inl rfl⟩
theorem fl_X12_9_11 : FL RX12 9 11 1 (.array .int) true true := ⟨RX12, TX12, 41, tyX12, "SlitDrumModel", cl_X12, by decide, rfl, rfl, fun _ => rfl, wt_in (i := 1370) (by decide +kernel) rfl, Or.inl rfl⟩
theorem fl_X12_100_11 : FL RX12 100 11 2 (.int) false true := ⟨RX12, TX12, 41, tyX12, "SlitDrumModel", cl_X12, by decide, rfl, rfl, fun _ => rfl, wt_in (i := 1371) (by decide +kernel) rfl, Or.inl rfl⟩
theorem fl_X12_103_11 : FL RX12 103 11 3 (.int) false true := ⟨RX12, TX12, 41, tyX12, "SlitDrumModel", cl_X12, by decide, rfl, rfl, fun _ => rfl, wt_in (i := 1372) (by decide +kernel) rfl, Or.inl rfl⟩
theorem fl_X12_110_11 : FL RX12 110 11 4 (.int) false true := ⟨RX12, TX12, 41, tyX12, "SlitDrumModel", cl_X12, by decide, rfl, rfl, fun _ => rfl, wt_in (i := 1373) (by decide +kernel) rfl, Or.inl rfl⟩
theorem fl_X12_116_11 : FL RX12 116 11 5 (.int) false true := ⟨RX12, TX12, 41, tyX12, "SlitDrumModel", cl_X12, by decide, rfl, rfl, fun _ => rfl, wt_in (i := 1374) (by decide +kernel) rfl, Or.inl rfl⟩
theorem fl_X12_13_11 : FL RX12 13 11 6 (.array .int) true true := ⟨RX12, TX12, 41, tyX12, "SlitDrumModel", cl_X12, by decide, rfl, rfl, fun _ => rfl, wt_in (i := 1375) (by decide +kernel) rfl, Or.inl rfl⟩
theorem fl_X12_16_11 : FL RX12 16 11 7 (.array .int) true true := ⟨RX12, TX12, 41, tyX12, "SlitDrumModel", cl_X12, by decide, rfl, rfl, fun _ => rfl, wt_in (i := 1376) (by decide +kernel) rfl, Or.inl rfl⟩
theorem fl_X12_19_11 : FL RX12 19 11 8 (.array .int) true true := ⟨RX12, TX12, 41, tyX12, "SlitDrumModel", cl_X12, by decide, rfl, rfl, fun _ => rfl, wt_in (i := 1377) (by decide +kernel) rfl, Or.inl rfl⟩
theorem fl_X12_22_11 : FL RX12 22 11 9 (.array .int) true true := ⟨RX12, TX12, 41, tyX12, "SlitDrumModel", cl_X12, by decide, rfl, rfl, fun _ => rfl, wt_in (i := 1378) (by decide +kernel) rfl, Or.inl rfl⟩
theorem fl_X12_25_11 : FL RX12 25 11 10 (.array .int) true true := ⟨RX12, TX12, 41, tyX12, "SlitDrumModel", cl_X12, by decide, rfl, rfl, fun _ => rfl, wt_in (i := 1379) (by decide +kernel) rfl, Or.inl rfl⟩
theorem fl_X12_28_11 : FL RX12 28 11 11 (.array .int) true true := ⟨RX12, TX12, 41, tyX12, "SlitDrumModel", cl_X12, by decide, rfl, rfl, fun _ => rfl, wt_in (i := 1380) (by decide +kernel) rfl, Or.inl rfl⟩
theorem fl_X12_31_11 : FL RX12 31 11 12 (.array .int) true true := ⟨RX12, TX12, 41, tyX12, "SlitDrumModel", cl_X12, by decide, rfl, rfl, fun _ => rfl, wt_in (i := 1381) (by decide +kernel) rfl, Or.inl rfl⟩
theorem fl_X12_282_11 : FL RX12 282 11 13 (.int) false true := ⟨RX12, TX12, 41, tyX12, "SlitDrumModel", cl_X12, by decide, rfl, rfl, fun _ => rfl, wt_in (i := 1382) (by decide +kernel) rfl, Or.inl rfl⟩
theorem fl_X12_113_11 : FL RX12 113 11 14 (.int) false true := ⟨RX12, TX12, 41, tyX12, "SlitDrumModel", cl_X12, by decide, rfl, rfl, fun _ => rfl, wt_in (i := 1383) (by decide +kernel) rfl, Or.inl rfl⟩
theorem fl_X12_34_11 : FL RX12 34 11 15 (.array .int) true true := ⟨RX12, TX12, 41, tyX12, "SlitDrumModel", cl_X12, by decide, rfl, rfl, fun _ => rfl, wt_in (i := 1384) (by decide +kernel) rfl, Or.inl rfl⟩
theorem fl_X12_37_11 : FL RX12 37 11 16 (.array .int) true true := ⟨RX12, TX12, 41, tyX12, "SlitDrumModel", cl_X12, by decide, rfl, rfl, fun _ => rfl, wt_in (i := 1385) (by decide +kernel) rfl, Or.inl rfl⟩
theorem fl_X12_40_11 : FL RX12 40 11 17 (.array .int) true true := ⟨RX12, TX12, 41, tyX12, "SlitDrumModel", cl_X12, by decide, rfl, rfl, fun _ => rfl, wt_in (i := 1386) (by decide +kernel) rfl, Or.inl rfl⟩
theorem fl_X12_43_11 : FL RX12 43 11 18 (.array .int) true true := ⟨RX12, TX12, 41, tyX12, "SlitDrumModel", cl_X12, by decide, rfl, rfl, fun _ => rfl, wt_in (i := 1387) (by decide +kernel) rfl, Or.inl rfl⟩
theorem fl_X12_229_11 : FL RX12 229 11 19 (.int) false true := ⟨RX12, TX12, 41, tyX12, "SlitDrumModel", cl_X12, by decide, rfl, rfl, fun _ => rfl, wt_in (i := 1388) (by decide +kernel) rfl, Or.inl rfl⟩
theorem fl_X12_263_11 : FL RX12 263 11 20 (.int) false true := ⟨RX12, TX12, 41, tyX12, "SlitDrumModel", cl_X12, by decide, rfl, rfl, fun _ => rfl, wt_in (i := 1389) (by decide +kernel) rfl, Or.inl rfl⟩
theorem fl_X12_46_11 : FL RX12 46 11 21 (.array .int) true true := ⟨RX12, TX12, 41, tyX12, "SlitDrumModel", cl_X12, by decide, rfl, rfl, fun _ => rfl, wt_in (i := 1390) (by decide +kernel) rfl, Or.inl rfl⟩
theorem fl_X12_49_11 : FL RX12 49 11 22 (.array .int) true true := ⟨RX12, TX12, 41, tyX12, "SlitDrumModel", cl_X12, by decide, rfl, rfl, fun _ => rfl, wt_in (i := 1391) (by decide +kernel) rfl, Or.inl rfl⟩
theorem fl_X12_251_11 : FL RX12 251 11 23 (.int) false true := ⟨RX12, TX12, 41, tyX12, "SlitDrumModel", cl_X12, by decide, rfl, rfl, fun _ => rfl, wt_in (i := 1392) (by decide +kernel) rfl, Or.inl rfl⟩
theorem fl_X12_52_11 : FL RX12 52 11 24 (.array .int) true true := ⟨RX12, TX12, 41, tyX12, "SlitDrumModel", cl_X12, by decide, rfl, rfl, fun _ => rfl, wt_in (i := 1393) (by decide +kernel) rfl, Or.inl rfl⟩
theorem fl_X12_55_11 : FL RX12 55 11 25 (.array .int) true true := ⟨RX12, TX12, 41, tyX12, "SlitDrumModel", cl_X12, by decide, rfl, rfl, fun _ => rfl, wt_in (i := 1394) (by decide +kernel) rfl, Or.inl rfl⟩
theorem fl_X12_58_11 : FL RX12 58 11 26 (.int) false true := ⟨RX12, TX12, 41, tyX12, "SlitDrumModel", cl_X12, by decide, rfl, rfl, fun _ => rfl, wt_in (i := 1395) (by decide +kernel) rfl, Or.inl rfl⟩
theorem fl_X12_62_11 : FL RX12 62 11 27 (.int) false true := ⟨RX12, TX12, 41, tyX12, "SlitDrumModel", cl_X12, by decide, rfl, rfl, fun _ => rfl, wt_in (i := 1396) (by decide +kernel) rfl, Or.inl rfl⟩
theorem fl_X12_65_11 : FL RX12 65 11 28 (.array .int) true true := ⟨RX12, TX12, 41, tyX12, "SlitDrumModel", cl_X12, by decide, rfl, rfl, fun _ => rfl, wt_in (i := 1397) (by decide +kernel) rfl, Or.inl rfl⟩
theorem fl_X12_272_11 : FL RX12 272 11 29 (.int) false true := ⟨RX12, TX12, 41, tyX12, "SlitDrumModel", cl_X12, by decide, rfl, rfl, fun _ => rfl, wt_in (i := 1398) (by decide +kernel) rfl, Or.inl rfl⟩
theorem fl_X12_328_11 : FL RX12 328 11 30 (.long) false true := ⟨RX12, TX12, 41, tyX12, "SlitDrumModel", cl_X12, by decide, rfl, rfl, fun _ => rfl, wt_in (i := 1399) (by decide +kernel) rfl, Or.inl rfl⟩
theorem fl_X12_68_11 : FL RX12 68 11 31 (.array .int) true true := ⟨RX12, TX12, 41, tyX12, "SlitDrumModel", cl_X12, by decide, rfl, rfl, fun _ => rfl, wt_in (i := 1400) (by decide +kernel) rfl, Or.inl rfl⟩
theorem fl_X12_71_11 : FL RX12 71 11 32 (.array .int) true true := ⟨RX12, TX12, 41, tyX12, "SlitDrumModel", cl_X12, by decide, rfl, rfl, fun _ => rfl, wt_in (i := 1401) (by decide +kernel) rfl, Or.inl rfl⟩
theorem fl_X12_74_11 : FL RX12 74 11 33 (.array .int) true true := ⟨RX12, TX12, 41, tyX12, "SlitDrumModel", cl_X12, by decide, rfl, rfl, fun _ => rfl, wt_in (i := 1402) (by decide +kernel) rfl, Or.inl rfl⟩
theorem fl_X12_77_11 : FL RX12 77 11 34 (.array .int) true true := ⟨RX12, TX12, 41, tyX12, "SlitDrumModel", cl_X12, by decide, rfl, rfl, fun _ => rfl, wt_in (i := 1403) (by decide +kernel) rfl, Or.inl rfl⟩
theorem fl_X12_80_11 : FL RX12 80 11 35 (.array .int) true true := ⟨RX12, TX12, 41, tyX12, "SlitDrumModel", cl_X12, by decide, rfl, rfl, fun _ => rfl, wt_in (i := 1404) (by decide +kernel) rfl, Or.inl rfl⟩
theorem fl_X12_83_11 : FL RX12 83 11 36 (.array .boolean) true true := ⟨RX12, TX12, 41, tyX12, "SlitDrumModel", cl_X12, by decide, rfl, rfl, fun _ => rfl, wt_in (i := 1405) (by decide +kernel) rfl, Or.inl rfl⟩
theorem fl_X12_269_11 : FL RX12 269 11 37 (.int) false true := ⟨RX12, TX12, 41, tyX12, "SlitDrumModel", cl_X12, by decide, rfl, rfl, fun _ => rfl, wt_in (i := 1406) (by decide +kernel) rfl, Or.inl rfl⟩
theorem fl_X12_87_11 : FL RX12 87 11 38 (.array .int) true true := ⟨RX12, TX12, 41, tyX12, "SlitDrumModel", cl_X12, by decide, rfl, rfl, fun _ => rfl, wt_in (i := 1407) (by decide +kernel) rfl, Or.inl rfl⟩
theorem fl_X12_90_11 : FL RX12 90 11 39 (.array .int) true true := ⟨RX12, TX12, 41, tyX12, "SlitDrumModel", cl_X12, by decide, rfl, rfl, fun _ => rfl, wt_in (i := 1408) (by decide +kernel) rfl, Or.inl rfl⟩
theorem fl_X12_275_11 : FL RX12 275 11 40 (.boolean) false true := ⟨RX12, TX12, 41, tyX12, "SlitDrumModel", cl_X12, by decide, rfl, rfl, fun _ => rfl, wt_in (i := 1409) (by decide +kernel) rfl, Or.inl rfl⟩
theorem ml_X11_init : ML yX11_init cX11_init 2 none 0 := ⟨wt_in (i := 157) (by decide +kernel) rfl, wt_in (i := 127) (by decide +kernel) rfl, by decide +kernel, by decide +kernel, by decide +kernel⟩
theorem im_X11_init : Cond.instanceMethod yX11_init ∈ wt_ := wt_in (i := 156) (by decide +kernel) rfl
theorem ml_X1_init : ML yX1_init cX1_init 1 none 0 := ⟨wt_in (i := 165) (by decide +kernel) rfl, wt_in (i := 129) (by decide +kernel) rfl, by decide +kernel, by decide +kernel, by decide +kernel⟩
theorem im_X1_init : Cond.instanceMethod yX1_init ∈ wt_ := wt_in (i := 164) (by decide +kernel) rfl
theorem ml_X6_init : ML yX6_init cX6_init 1 none 0 := ⟨wt_in (i := 168) (by decide +kernel) rfl, wt_in (i := 128) (by decide +kernel) rfl, by decide +kernel, by decide +kernel, by decide +kernel⟩
theorem im_X6_init : Cond.instanceMethod yX6_init ∈ wt_ := wt_in (i := 167) (by decide +kernel) rfl
theorem ml_X3_init : ML yX3_init cX3_init 1 none 0 := ⟨wt_in (i := 204) (by decide +kernel) rfl, wt_in (i := 130) (by decide +kernel) rfl, by decide +kernel, by decide +kernel, by decide +kernel⟩
theorem im_X3_init : Cond.instanceMethod yX3_init ∈ wt_ := wt_in (i := 203) (by decide +kernel) rfl
theorem ml_X9_init : ML yX9_init cX9_init 1 none 0 := ⟨wt_in (i := 220) (by decide +kernel) rfl, wt_in (i := 131) (by decide +kernel) rfl, by decide +kernel, by decide +kernel, by decide +kernel⟩
theorem im_X9_init : Cond.instanceMethod yX9_init ∈ wt_ := wt_in (i := 219) (by decide +kernel) rfl
theorem ml_X8_init : ML yX8_init cX8_init 2 none 1 := ⟨wt_in (i := 239) (by decide +kernel) rfl, wt_in (i := 132) (by decide +kernel) rfl, by decide +kernel, by decide +kernel, by decide +kernel⟩
theorem im_X8_init : Cond.instanceMethod yX8_init ∈ wt_ := wt_in (i := 238) (by decide +kernel) rfl
theorem ml_X7_init : ML yX7_init cX7_init 2 none 0 := ⟨wt_in (i := 249) (by decide +kernel) rfl, wt_in (i := 133) (by decide +kernel) rfl, by decide +kernel, by decide +kernel, by decide +kernel⟩
theorem im_X7_init : Cond.instanceMethod yX7_init ∈ wt_ := wt_in (i := 248) (by decide +kernel) rfl
theorem ml_X10_init : ML yX10_init cX10_init 1 none 0 := ⟨wt_in (i := 256) (by decide +kernel) rfl, wt_in (i := 134) (by decide +kernel) rfl, by decide +kernel, by decide +kernel, by decide +kernel⟩
theorem im_X10_init : Cond.instanceMethod yX10_init ∈ wt_ := wt_in (i := 255) (by decide +kernel) rfl
theorem ml_X5_init : ML yX5_init cX5_init 2 none 0 := ⟨wt_in (i := 322) (by decide +kernel) rfl, wt_in (i := 135) (by decide +kernel) rfl, by decide +kernel, by decide +kernel, by decide +kernel⟩
theorem im_X5_init : Cond.instanceMethod yX5_init ∈ wt_ := wt_in (i := 321) (by decide +kernel) rfl
theorem ml_X4_init : ML yX4_init cX4_init 1 none 0 := ⟨wt_in (i := 342) (by decide +kernel) rfl, wt_in (i := 136) (by decide +kernel) rfl, by decide +kernel, by decide +kernel, by decide +kernel⟩
theorem im_X4_init : Cond.instanceMethod yX4_init ∈ wt_ := wt_in (i := 341) (by decide +kernel) rfl
theorem ml_X0_init : ML yX0_init cX0_init 1 none 0 := ⟨wt_in (i := 374) (by decide +kernel) rfl, wt_in (i := 137) (by decide +kernel) rfl, by decide +kernel, by decide +kernel, by decide +kernel⟩
theorem im_X0_init : Cond.instanceMethod yX0_init ∈ wt_ := wt_in (i := 373) (by decide +kernel) rfl
theorem ml_X11_feed : ML yX11_feed cX11_feed 7 (some .int) 5 := ⟨wt_in (i := 473) (by decide +kernel) rfl, wt_in (i := 127) (by decide +kernel) rfl, by decide +kernel, by decide +kernel, by decide +kernel⟩
theorem im_X11_feed : Cond.instanceMethod yX11_feed ∈ wt_ := wt_in (i := 471) (by decide +kernel) rfl
theorem se_X11_feed : Cond.selects yX11_feed.cls yX11_feed yX11_feed ∈ wt_ := wt_in (i := 472) (by decide +kernel) rfl
theorem ml_X11_bytesIn : ML yX11_bytesIn cX11_bytesIn 3 (some .int) 1 := ⟨wt_in (i := 476) (by decide +kernel) rfl, wt_in (i := 127) (by decide +kernel) rfl, by decide +kernel, by decide +kernel, by decide +kernel⟩
theorem sm_X11_bytesIn : Cond.static yX11_bytesIn ∈ wt_ := wt_in (i := 475) (by decide +kernel) rfl
theorem ml_X11_record : ML yX11_record cX11_record 4 none 1 := ⟨wt_in (i := 480) (by decide +kernel) rfl, wt_in (i := 127) (by decide +kernel) rfl, by decide +kernel, by decide +kernel, by decide +kernel⟩
theorem im_X11_record : Cond.instanceMethod yX11_record ∈ wt_ := wt_in (i := 479) (by decide +kernel) rfl
theorem se_X11_record : Cond.selects yX11_record.cls yX11_record yX11_record ∈ wt_ := wt_in (i := 0) (by decide +kernel) rfl
theorem ml_X11_end : ML yX11_end cX11_end 2 (some .boolean) 1 := ⟨wt_in (i := 484) (by decide +kernel) rfl, wt_in (i := 127) (by decide +kernel) rfl, by decide +kernel, by decide +kernel, by decide +kernel⟩
theorem im_X11_end : Cond.instanceMethod yX11_end ∈ wt_ := wt_in (i := 482) (by decide +kernel) rfl
theorem se_X11_end : Cond.selects yX11_end.cls yX11_end yX11_end ∈ wt_ := wt_in (i := 483) (by decide +kernel) rfl
theorem ml_X11_fault : ML yX11_fault cX11_fault 3 (some .int) 1 := ⟨wt_in (i := 488) (by decide +kernel) rfl, wt_in (i := 127) (by decide +kernel) rfl, by decide +kernel, by decide +kernel, by decide +kernel⟩
theorem im_X11_fault : Cond.instanceMethod yX11_fault ∈ wt_ := wt_in (i := 486) (by decide +kernel) rfl
theorem se_X11_fault : Cond.selects yX11_fault.cls yX11_fault yX11_fault ∈ wt_ := wt_in (i := 487) (by decide +kernel) rfl
theorem ml_X11_readerOf : ML yX11_readerOf cX11_readerOf 3 (some (.object "SlitDrum$Reader")) 1 := ⟨wt_in (i := 492) (by decide +kernel) rfl, wt_in (i := 127) (by decide +kernel) rfl, by decide +kernel, by decide +kernel, by decide +kernel⟩
theorem im_X11_readerOf : Cond.instanceMethod yX11_readerOf ∈ wt_ := wt_in (i := 491) (by decide +kernel) rfl
theorem se_X11_readerOf : Cond.selects yX11_readerOf.cls yX11_readerOf yX11_readerOf ∈ wt_ := wt_in (i := 1) (by decide +kernel) rfl
theorem ml_X6_start : ML yX6_start cX6_start 3 none 2 := ⟨wt_in (i := 499) (by decide +kernel) rfl, wt_in (i := 128) (by decide +kernel) rfl, by decide +kernel, by decide +kernel, by decide +kernel⟩
theorem im_X6_start : Cond.instanceMethod yX6_start ∈ wt_ := wt_in (i := 494) (by decide +kernel) rfl
theorem ml_J9_min_7cf53 : ML yJ9_min_7cf53 cJ9_min_7cf53 2 (some .int) 2 := ⟨wt_in (i := 502) (by decide +kernel) rfl, wt_in (i := 139) (by decide +kernel) rfl, by decide +kernel, by decide +kernel, by decide +kernel⟩
theorem sm_J9_min_7cf53 : Cond.static yJ9_min_7cf53 ∈ wt_ := wt_in (i := 501) (by decide +kernel) rfl
theorem ml_X1_isWhole : ML yX1_isWhole cX1_isWhole 2 (some .boolean) 0 := ⟨wt_in (i := 508) (by decide +kernel) rfl, wt_in (i := 129) (by decide +kernel) rfl, by decide +kernel, by decide +kernel, by decide +kernel⟩
theorem im_X1_isWhole : Cond.instanceMethod yX1_isWhole ∈ wt_ := wt_in (i := 507) (by decide +kernel) rfl
theorem ml_X1_isClause : ML yX1_isClause cX1_isClause 2 (some .boolean) 0 := ⟨wt_in (i := 517) (by decide +kernel) rfl, wt_in (i := 129) (by decide +kernel) rfl, by decide +kernel, by decide +kernel, by decide +kernel⟩
theorem im_X1_isClause : Cond.instanceMethod yX1_isClause ∈ wt_ := wt_in (i := 516) (by decide +kernel) rfl
theorem se_X1_isClause : Cond.selects yX1_isClause.cls yX1_isClause yX1_isClause ∈ wt_ := wt_in (i := 2) (by decide +kernel) rfl
theorem ml_X6_takes : ML yX6_takes cX6_takes 3 (some .boolean) 1 := ⟨wt_in (i := 523) (by decide +kernel) rfl, wt_in (i := 128) (by decide +kernel) rfl, by decide +kernel, by decide +kernel, by decide +kernel⟩
theorem im_X6_takes : Cond.instanceMethod yX6_takes ∈ wt_ := wt_in (i := 522) (by decide +kernel) rfl
theorem ml_X6_nextSign : ML yX6_nextSign cX6_nextSign 1 (some .int) 0 := ⟨wt_in (i := 530) (by decide +kernel) rfl, wt_in (i := 128) (by decide +kernel) rfl, by decide +kernel, by decide +kernel, by decide +kernel⟩
theorem im_X6_nextSign : Cond.instanceMethod yX6_nextSign ∈ wt_ := wt_in (i := 525) (by decide +kernel) rfl
theorem ml_X1_areItems : ML yX1_areItems cX1_areItems 10 (some .boolean) 5 := ⟨wt_in (i := 539) (by decide +kernel) rfl, wt_in (i := 129) (by decide +kernel) rfl, by decide +kernel, by decide +kernel, by decide +kernel⟩
theorem im_X1_areItems : Cond.instanceMethod yX1_areItems ∈ wt_ := wt_in (i := 538) (by decide +kernel) rfl
theorem se_X1_areItems : Cond.selects yX1_areItems.cls yX1_areItems yX1_areItems ∈ wt_ := wt_in (i := 3) (by decide +kernel) rfl
theorem ml_J0_length_8abf5 : ML yJ0_length_8abf5 cJ0_length_8abf5 1 (some .int) 0 := ⟨wt_in (i := 543) (by decide +kernel) rfl, wt_in (i := 141) (by decide +kernel) rfl, by decide +kernel, by decide +kernel, by decide +kernel⟩
theorem im_J0_length_8abf5 : Cond.instanceMethod yJ0_length_8abf5 ∈ wt_ := wt_in (i := 541) (by decide +kernel) rfl
theorem se_J0_length_8abf5 : Cond.selects yJ0_length_8abf5.cls yJ0_length_8abf5 yJ0_length_8abf5 ∈ wt_ := wt_in (i := 542) (by decide +kernel) rfl
theorem ml_J0_coder_7d493 : ML yJ0_coder_7d493 cJ0_coder_7d493 1 (some .byte) 0 := ⟨wt_in (i := 547) (by decide +kernel) rfl, wt_in (i := 141) (by decide +kernel) rfl, by decide +kernel, by decide +kernel, by decide +kernel⟩
theorem im_J0_coder_7d493 : Cond.instanceMethod yJ0_coder_7d493 ∈ wt_ := wt_in (i := 545) (by decide +kernel) rfl
theorem se_J0_coder_7d493 : Cond.selects yJ0_coder_7d493.cls yJ0_coder_7d493 yJ0_coder_7d493 ∈ wt_ := wt_in (i := 546) (by decide +kernel) rfl
theorem ml_X6_letterOf : ML yX6_letterOf cX6_letterOf 2 (some .int) 2 := ⟨wt_in (i := 557) (by decide +kernel) rfl, wt_in (i := 128) (by decide +kernel) rfl, by decide +kernel, by decide +kernel, by decide +kernel⟩
theorem sm_X6_letterOf : Cond.static yX6_letterOf ∈ wt_ := wt_in (i := 556) (by decide +kernel) rfl
theorem ml_J0_indexOf_0f7a4 : ML yJ0_indexOf_0f7a4 cJ0_indexOf_0f7a4 2 (some .int) 1 := ⟨wt_in (i := 561) (by decide +kernel) rfl, wt_in (i := 141) (by decide +kernel) rfl, by decide +kernel, by decide +kernel, by decide +kernel⟩
theorem im_J0_indexOf_0f7a4 : Cond.instanceMethod yJ0_indexOf_0f7a4 ∈ wt_ := wt_in (i := 559) (by decide +kernel) rfl
theorem se_J0_indexOf_0f7a4 : Cond.selects yJ0_indexOf_0f7a4.cls yJ0_indexOf_0f7a4 yJ0_indexOf_0f7a4 ∈ wt_ := wt_in (i := 560) (by decide +kernel) rfl
theorem ml_J0_indexOf_7cf53 : ML yJ0_indexOf_7cf53 cJ0_indexOf_7cf53 3 (some .int) 2 := ⟨wt_in (i := 565) (by decide +kernel) rfl, wt_in (i := 141) (by decide +kernel) rfl, by decide +kernel, by decide +kernel, by decide +kernel⟩
theorem im_J0_indexOf_7cf53 : Cond.instanceMethod yJ0_indexOf_7cf53 ∈ wt_ := wt_in (i := 563) (by decide +kernel) rfl
theorem se_J0_indexOf_7cf53 : Cond.selects yJ0_indexOf_7cf53.cls yJ0_indexOf_7cf53 yJ0_indexOf_7cf53 ∈ wt_ := wt_in (i := 564) (by decide +kernel) rfl
theorem ml_J0_isLatin1_aae02 : ML yJ0_isLatin1_aae02 cJ0_isLatin1_aae02 1 (some .boolean) 0 := ⟨wt_in (i := 569) (by decide +kernel) rfl, wt_in (i := 141) (by decide +kernel) rfl, by decide +kernel, by decide +kernel, by decide +kernel⟩
theorem im_J0_isLatin1_aae02 : Cond.instanceMethod yJ0_isLatin1_aae02 ∈ wt_ := wt_in (i := 567) (by decide +kernel) rfl
theorem se_J0_isLatin1_aae02 : Cond.selects yJ0_isLatin1_aae02.cls yJ0_isLatin1_aae02 yJ0_isLatin1_aae02 ∈ wt_ := wt_in (i := 568) (by decide +kernel) rfl
theorem ml_J1_indexOf_4cfef : ML yJ1_indexOf_4cfef cJ1_indexOf_4cfef 4 (some .int) 4 := ⟨wt_in (i := 573) (by decide +kernel) rfl, wt_in (i := 142) (by decide +kernel) rfl, by decide +kernel, by decide +kernel, by decide +kernel⟩
theorem sm_J1_indexOf_4cfef : Cond.static yJ1_indexOf_4cfef ∈ wt_ := wt_in (i := 572) (by decide +kernel) rfl
theorem ml_J1_canEncode_9a6ad : ML yJ1_canEncode_9a6ad cJ1_canEncode_9a6ad 1 (some .boolean) 1 := ⟨wt_in (i := 576) (by decide +kernel) rfl, wt_in (i := 142) (by decide +kernel) rfl, by decide +kernel, by decide +kernel, by decide +kernel⟩
theorem sm_J1_canEncode_9a6ad : Cond.static yJ1_canEncode_9a6ad ∈ wt_ := wt_in (i := 575) (by decide +kernel) rfl
theorem ml_J9_max_7cf53 : ML yJ9_max_7cf53 cJ9_max_7cf53 2 (some .int) 2 := ⟨wt_in (i := 579) (by decide +kernel) rfl, wt_in (i := 139) (by decide +kernel) rfl, by decide +kernel, by decide +kernel, by decide +kernel⟩
theorem sm_J9_max_7cf53 : Cond.static yJ9_max_7cf53 ∈ wt_ := wt_in (i := 578) (by decide +kernel) rfl
theorem ml_J1_indexOfChar_4cfef : ML yJ1_indexOfChar_4cfef cJ1_indexOfChar_4cfef 6 (some .int) 4 := ⟨wt_in (i := 583) (by decide +kernel) rfl, wt_in (i := 142) (by decide +kernel) rfl, by decide +kernel, by decide +kernel, by decide +kernel⟩
theorem sm_J1_indexOfChar_4cfef : Cond.static yJ1_indexOfChar_4cfef ∈ wt_ := wt_in (i := 582) (by decide +kernel) rfl
theorem ml_J2_indexOf_4cfef : ML yJ2_indexOf_4cfef cJ2_indexOf_4cfef 4 (some .int) 4 := ⟨wt_in (i := 586) (by decide +kernel) rfl, wt_in (i := 143) (by decide +kernel) rfl, by decide +kernel, by decide +kernel, by decide +kernel⟩
theorem sm_J2_indexOf_4cfef : Cond.static yJ2_indexOf_4cfef ∈ wt_ := wt_in (i := 585) (by decide +kernel) rfl
theorem ml_J2_indexOfChar_4cfef : ML yJ2_indexOfChar_4cfef cJ2_indexOfChar_4cfef 4 (some .int) 4 := ⟨wt_in (i := 592) (by decide +kernel) rfl, wt_in (i := 143) (by decide +kernel) rfl, by decide +kernel, by decide +kernel, by decide +kernel⟩
theorem sm_J2_indexOfChar_4cfef : Cond.static yJ2_indexOfChar_4cfef ∈ wt_ := wt_in (i := 591) (by decide +kernel) rfl
theorem ml_J2_checkBoundsBeginEnd_d044e : ML yJ2_checkBoundsBeginEnd_d044e cJ2_checkBoundsBeginEnd_d044e 3 none 3 := ⟨wt_in (i := 595) (by decide +kernel) rfl, wt_in (i := 143) (by decide +kernel) rfl, by decide +kernel, by decide +kernel, by decide +kernel⟩
theorem sm_J2_checkBoundsBeginEnd_d044e : Cond.static yJ2_checkBoundsBeginEnd_d044e ∈ wt_ := wt_in (i := 594) (by decide +kernel) rfl
theorem ml_J2_length_9d52b : ML yJ2_length_9d52b cJ2_length_9d52b 1 (some .int) 1 := ⟨wt_in (i := 598) (by decide +kernel) rfl, wt_in (i := 143) (by decide +kernel) rfl, by decide +kernel, by decide +kernel, by decide +kernel⟩
theorem sm_J2_length_9d52b : Cond.static yJ2_length_9d52b ∈ wt_ := wt_in (i := 597) (by decide +kernel) rfl
theorem ml_J0_checkBoundsBeginEnd_23922 : ML yJ0_checkBoundsBeginEnd_23922 cJ0_checkBoundsBeginEnd_23922 3 none 3 := ⟨wt_in (i := 601) (by decide +kernel) rfl, wt_in (i := 141) (by decide +kernel) rfl, by decide +kernel, by decide +kernel, by decide +kernel⟩
theorem sm_J0_checkBoundsBeginEnd_23922 : Cond.static yJ0_checkBoundsBeginEnd_23922 ∈ wt_ := wt_in (i := 600) (by decide +kernel) rfl
theorem ml_J3_checkFromToIndex_8c36e : ML yJ3_checkFromToIndex_8c36e cJ3_checkFromToIndex_8c36e 4 (some .int) 4 := ⟨wt_in (i := 606) (by decide +kernel) rfl, wt_in (i := 144) (by decide +kernel) rfl, by decide +kernel, by decide +kernel, by decide +kernel⟩
theorem sm_J3_checkFromToIndex_8c36e : Cond.static yJ3_checkFromToIndex_8c36e ∈ wt_ := wt_in (i := 605) (by decide +kernel) rfl
theorem ml_J2_indexOfCharUnsafe_4cfef : ML yJ2_indexOfCharUnsafe_4cfef cJ2_indexOfCharUnsafe_4cfef 5 (some .int) 4 := ⟨wt_in (i := 609) (by decide +kernel) rfl, wt_in (i := 143) (by decide +kernel) rfl, by decide +kernel, by decide +kernel, by decide +kernel⟩
theorem sm_J2_indexOfCharUnsafe_4cfef : Cond.static yJ2_indexOfCharUnsafe_4cfef ∈ wt_ := wt_in (i := 608) (by decide +kernel) rfl
theorem ml_J2_getChar_3b067 : ML yJ2_getChar_3b067 cJ2_getChar_3b067 2 (some .char) 2 := ⟨wt_in (i := 612) (by decide +kernel) rfl, wt_in (i := 143) (by decide +kernel) rfl, by decide +kernel, by decide +kernel, by decide +kernel⟩
theorem sm_J2_getChar_3b067 : Cond.static yJ2_getChar_3b067 ∈ wt_ := wt_in (i := 611) (by decide +kernel) rfl
theorem ml_J2_indexOfSupplementary_4cfef : ML yJ2_indexOfSupplementary_4cfef cJ2_indexOfSupplementary_4cfef 7 (some .int) 4 := ⟨wt_in (i := 621) (by decide +kernel) rfl, wt_in (i := 143) (by decide +kernel) rfl, by decide +kernel, by decide +kernel, by decide +kernel⟩
theorem sm_J2_indexOfSupplementary_4cfef : Cond.static yJ2_indexOfSupplementary_4cfef ∈ wt_ := wt_in (i := 620) (by decide +kernel) rfl
theorem ml_J11_isValidCodePoint_9a6ad : ML yJ11_isValidCodePoint_9a6ad cJ11_isValidCodePoint_9a6ad 2 (some .boolean) 1 := ⟨wt_in (i := 624) (by decide +kernel) rfl, wt_in (i := 145) (by decide +kernel) rfl, by decide +kernel, by decide +kernel, by decide +kernel⟩
theorem sm_J11_isValidCodePoint_9a6ad : Cond.static yJ11_isValidCodePoint_9a6ad ∈ wt_ := wt_in (i := 623) (by decide +kernel) rfl
theorem ml_J11_highSurrogate_5068e : ML yJ11_highSurrogate_5068e cJ11_highSurrogate_5068e 1 (some .char) 1 := ⟨wt_in (i := 627) (by decide +kernel) rfl, wt_in (i := 145) (by decide +kernel) rfl, by decide +kernel, by decide +kernel, by decide +kernel⟩
theorem sm_J11_highSurrogate_5068e : Cond.static yJ11_highSurrogate_5068e ∈ wt_ := wt_in (i := 626) (by decide +kernel) rfl
theorem ml_J11_lowSurrogate_5068e : ML yJ11_lowSurrogate_5068e cJ11_lowSurrogate_5068e 1 (some .char) 1 := ⟨wt_in (i := 631) (by decide +kernel) rfl, wt_in (i := 145) (by decide +kernel) rfl, by decide +kernel, by decide +kernel, by decide +kernel⟩
theorem sm_J11_lowSurrogate_5068e : Cond.static yJ11_lowSurrogate_5068e ∈ wt_ := wt_in (i := 630) (by decide +kernel) rfl
theorem ml_X6_number : ML yX6_number cX6_number 8 (some .int) 3 := ⟨wt_in (i := 638) (by decide +kernel) rfl, wt_in (i := 128) (by decide +kernel) rfl, by decide +kernel, by decide +kernel, by decide +kernel⟩
theorem im_X6_number : Cond.instanceMethod yX6_number ∈ wt_ := wt_in (i := 637) (by decide +kernel) rfl
theorem ml_X3_isWhole : ML yX3_isWhole cX3_isWhole 2 (some .boolean) 0 := ⟨wt_in (i := 648) (by decide +kernel) rfl, wt_in (i := 130) (by decide +kernel) rfl, by decide +kernel, by decide +kernel, by decide +kernel⟩
theorem im_X3_isWhole : Cond.instanceMethod yX3_isWhole ∈ wt_ := wt_in (i := 647) (by decide +kernel) rfl
theorem ml_X3_isClause : ML yX3_isClause cX3_isClause 2 (some .boolean) 0 := ⟨wt_in (i := 652) (by decide +kernel) rfl, wt_in (i := 130) (by decide +kernel) rfl, by decide +kernel, by decide +kernel, by decide +kernel⟩
theorem im_X3_isClause : Cond.instanceMethod yX3_isClause ∈ wt_ := wt_in (i := 651) (by decide +kernel) rfl
theorem se_X3_isClause : Cond.selects yX3_isClause.cls yX3_isClause yX3_isClause ∈ wt_ := wt_in (i := 4) (by decide +kernel) rfl
theorem ml_X3_isCondition : ML yX3_isCondition cX3_isCondition 2 (some .boolean) 1 := ⟨wt_in (i := 662) (by decide +kernel) rfl, wt_in (i := 130) (by decide +kernel) rfl, by decide +kernel, by decide +kernel, by decide +kernel⟩
theorem im_X3_isCondition : Cond.instanceMethod yX3_isCondition ∈ wt_ := wt_in (i := 661) (by decide +kernel) rfl
theorem se_X3_isCondition : Cond.selects yX3_isCondition.cls yX3_isCondition yX3_isCondition ∈ wt_ := wt_in (i := 5) (by decide +kernel) rfl
theorem ml_X3_isTruth : ML yX3_isTruth cX3_isTruth 2 (some .boolean) 1 := ⟨wt_in (i := 666) (by decide +kernel) rfl, wt_in (i := 130) (by decide +kernel) rfl, by decide +kernel, by decide +kernel, by decide +kernel⟩
theorem im_X3_isTruth : Cond.instanceMethod yX3_isTruth ∈ wt_ := wt_in (i := 665) (by decide +kernel) rfl
theorem se_X3_isTruth : Cond.selects yX3_isTruth.cls yX3_isTruth yX3_isTruth ∈ wt_ := wt_in (i := 6) (by decide +kernel) rfl
theorem ml_X3_isUnit : ML yX3_isUnit cX3_isUnit 3 (some .boolean) 1 := ⟨wt_in (i := 670) (by decide +kernel) rfl, wt_in (i := 130) (by decide +kernel) rfl, by decide +kernel, by decide +kernel, by decide +kernel⟩
theorem im_X3_isUnit : Cond.instanceMethod yX3_isUnit ∈ wt_ := wt_in (i := 669) (by decide +kernel) rfl
theorem se_X3_isUnit : Cond.selects yX3_isUnit.cls yX3_isUnit yX3_isUnit ∈ wt_ := wt_in (i := 7) (by decide +kernel) rfl
theorem ml_X3_isSum : ML yX3_isSum cX3_isSum 4 (some .boolean) 1 := ⟨wt_in (i := 674) (by decide +kernel) rfl, wt_in (i := 130) (by decide +kernel) rfl, by decide +kernel, by decide +kernel, by decide +kernel⟩
theorem im_X3_isSum : Cond.instanceMethod yX3_isSum ∈ wt_ := wt_in (i := 673) (by decide +kernel) rfl
theorem se_X3_isSum : Cond.selects yX3_isSum.cls yX3_isSum yX3_isSum ∈ wt_ := wt_in (i := 8) (by decide +kernel) rfl
theorem ml_X3_isTerm : ML yX3_isTerm cX3_isTerm 4 (some .boolean) 1 := ⟨wt_in (i := 678) (by decide +kernel) rfl, wt_in (i := 130) (by decide +kernel) rfl, by decide +kernel, by decide +kernel, by decide +kernel⟩
theorem im_X3_isTerm : Cond.instanceMethod yX3_isTerm ∈ wt_ := wt_in (i := 677) (by decide +kernel) rfl
theorem se_X3_isTerm : Cond.selects yX3_isTerm.cls yX3_isTerm yX3_isTerm ∈ wt_ := wt_in (i := 9) (by decide +kernel) rfl
theorem ml_X3_isAtom : ML yX3_isAtom cX3_isAtom 5 (some .boolean) 1 := ⟨wt_in (i := 682) (by decide +kernel) rfl, wt_in (i := 130) (by decide +kernel) rfl, by decide +kernel, by decide +kernel, by decide +kernel⟩
theorem im_X3_isAtom : Cond.instanceMethod yX3_isAtom ∈ wt_ := wt_in (i := 681) (by decide +kernel) rfl
theorem se_X3_isAtom : Cond.selects yX3_isAtom.cls yX3_isAtom yX3_isAtom ∈ wt_ := wt_in (i := 10) (by decide +kernel) rfl
theorem ml_X2_letterCode : ML yX2_letterCode cX2_letterCode 1 (some .int) 1 := ⟨wt_in (i := 688) (by decide +kernel) rfl, wt_in (i := 146) (by decide +kernel) rfl, by decide +kernel, by decide +kernel, by decide +kernel⟩
theorem sm_X2_letterCode : Cond.static yX2_letterCode ∈ wt_ := wt_in (i := 687) (by decide +kernel) rfl
theorem ml_X3_write : ML yX3_write cX3_write 2 none 1 := ⟨wt_in (i := 692) (by decide +kernel) rfl, wt_in (i := 130) (by decide +kernel) rfl, by decide +kernel, by decide +kernel, by decide +kernel⟩
theorem im_X3_write : Cond.instanceMethod yX3_write ∈ wt_ := wt_in (i := 691) (by decide +kernel) rfl
theorem se_X3_write : Cond.selects yX3_write.cls yX3_write yX3_write ∈ wt_ := wt_in (i := 11) (by decide +kernel) rfl
theorem ml_X2_signCode : ML yX2_signCode cX2_signCode 1 (some .int) 1 := ⟨wt_in (i := 698) (by decide +kernel) rfl, wt_in (i := 146) (by decide +kernel) rfl, by decide +kernel, by decide +kernel, by decide +kernel⟩
theorem sm_X2_signCode : Cond.static yX2_signCode ∈ wt_ := wt_in (i := 697) (by decide +kernel) rfl
theorem ml_X3_isCompared : ML yX3_isCompared cX3_isCompared 3 (some .boolean) 1 := ⟨wt_in (i := 702) (by decide +kernel) rfl, wt_in (i := 130) (by decide +kernel) rfl, by decide +kernel, by decide +kernel, by decide +kernel⟩
theorem im_X3_isCompared : Cond.instanceMethod yX3_isCompared ∈ wt_ := wt_in (i := 701) (by decide +kernel) rfl
theorem se_X3_isCompared : Cond.selects yX3_isCompared.cls yX3_isCompared yX3_isCompared ∈ wt_ := wt_in (i := 12) (by decide +kernel) rfl
theorem ml_X3_isComparison : ML yX3_isComparison cX3_isComparison 1 (some .boolean) 1 := ⟨wt_in (i := 705) (by decide +kernel) rfl, wt_in (i := 130) (by decide +kernel) rfl, by decide +kernel, by decide +kernel, by decide +kernel⟩
theorem sm_X3_isComparison : Cond.static yX3_isComparison ∈ wt_ := wt_in (i := 704) (by decide +kernel) rfl
theorem ml_X3_areMoreUnits : ML yX3_areMoreUnits cX3_areMoreUnits 3 (some .boolean) 1 := ⟨wt_in (i := 709) (by decide +kernel) rfl, wt_in (i := 130) (by decide +kernel) rfl, by decide +kernel, by decide +kernel, by decide +kernel⟩
theorem im_X3_areMoreUnits : Cond.instanceMethod yX3_areMoreUnits ∈ wt_ := wt_in (i := 708) (by decide +kernel) rfl
theorem se_X3_areMoreUnits : Cond.selects yX3_areMoreUnits.cls yX3_areMoreUnits yX3_areMoreUnits ∈ wt_ := wt_in (i := 13) (by decide +kernel) rfl
theorem ml_X3_areMoreTruths : ML yX3_areMoreTruths cX3_areMoreTruths 3 (some .boolean) 1 := ⟨wt_in (i := 713) (by decide +kernel) rfl, wt_in (i := 130) (by decide +kernel) rfl, by decide +kernel, by decide +kernel, by decide +kernel⟩
theorem im_X3_areMoreTruths : Cond.instanceMethod yX3_areMoreTruths ∈ wt_ := wt_in (i := 712) (by decide +kernel) rfl
theorem se_X3_areMoreTruths : Cond.selects yX3_areMoreTruths.cls yX3_areMoreTruths yX3_areMoreTruths ∈ wt_ := wt_in (i := 14) (by decide +kernel) rfl
theorem ml_X3_isAnswerIf : ML yX3_isAnswerIf cX3_isAnswerIf 2 (some .boolean) 0 := ⟨wt_in (i := 717) (by decide +kernel) rfl, wt_in (i := 130) (by decide +kernel) rfl, by decide +kernel, by decide +kernel, by decide +kernel⟩
theorem im_X3_isAnswerIf : Cond.instanceMethod yX3_isAnswerIf ∈ wt_ := wt_in (i := 716) (by decide +kernel) rfl
theorem se_X3_isAnswerIf : Cond.selects yX3_isAnswerIf.cls yX3_isAnswerIf yX3_isAnswerIf ∈ wt_ := wt_in (i := 15) (by decide +kernel) rfl
theorem ml_X9_isWhole : ML yX9_isWhole cX9_isWhole 5 (some .boolean) 0 := ⟨wt_in (i := 720) (by decide +kernel) rfl, wt_in (i := 131) (by decide +kernel) rfl, by decide +kernel, by decide +kernel, by decide +kernel⟩
theorem im_X9_isWhole : Cond.instanceMethod yX9_isWhole ∈ wt_ := wt_in (i := 719) (by decide +kernel) rfl
theorem ml_X9_pictureOf : ML yX9_pictureOf cX9_pictureOf 1 (some .int) 1 := ⟨wt_in (i := 726) (by decide +kernel) rfl, wt_in (i := 131) (by decide +kernel) rfl, by decide +kernel, by decide +kernel, by decide +kernel⟩
theorem sm_X9_pictureOf : Cond.static yX9_pictureOf ∈ wt_ := wt_in (i := 725) (by decide +kernel) rfl
theorem ml_X9_add : ML yX9_add cX9_add 4 none 2 := ⟨wt_in (i := 730) (by decide +kernel) rfl, wt_in (i := 131) (by decide +kernel) rfl, by decide +kernel, by decide +kernel, by decide +kernel⟩
theorem im_X9_add : Cond.instanceMethod yX9_add ∈ wt_ := wt_in (i := 729) (by decide +kernel) rfl
theorem se_X9_add : Cond.selects yX9_add.cls yX9_add yX9_add ∈ wt_ := wt_in (i := 16) (by decide +kernel) rfl
theorem ml_X11_text : ML yX11_text cX11_text 4 (some .int) 1 := ⟨wt_in (i := 735) (by decide +kernel) rfl, wt_in (i := 127) (by decide +kernel) rfl, by decide +kernel, by decide +kernel, by decide +kernel⟩
theorem im_X11_text : Cond.instanceMethod yX11_text ∈ wt_ := wt_in (i := 733) (by decide +kernel) rfl
theorem se_X11_text : Cond.selects yX11_text.cls yX11_text yX11_text ∈ wt_ := wt_in (i := 734) (by decide +kernel) rfl
theorem ml_X11_tellLantern : ML yX11_tellLantern cX11_tellLantern 3 (some .int) 0 := ⟨wt_in (i := 739) (by decide +kernel) rfl, wt_in (i := 127) (by decide +kernel) rfl, by decide +kernel, by decide +kernel, by decide +kernel⟩
theorem im_X11_tellLantern : Cond.instanceMethod yX11_tellLantern ∈ wt_ := wt_in (i := 738) (by decide +kernel) rfl
theorem se_X11_tellLantern : Cond.selects yX11_tellLantern.cls yX11_tellLantern yX11_tellLantern ∈ wt_ := wt_in (i := 17) (by decide +kernel) rfl
theorem ml_X1_tell : ML yX1_tell cX1_tell 4 none 1 := ⟨wt_in (i := 743) (by decide +kernel) rfl, wt_in (i := 129) (by decide +kernel) rfl, by decide +kernel, by decide +kernel, by decide +kernel⟩
theorem im_X1_tell : Cond.instanceMethod yX1_tell ∈ wt_ := wt_in (i := 741) (by decide +kernel) rfl
theorem se_X1_tell : Cond.selects yX1_tell.cls yX1_tell yX1_tell ∈ wt_ := wt_in (i := 742) (by decide +kernel) rfl
theorem ml_X11_stripOf : ML yX11_stripOf cX11_stripOf 2 (some (.object "SlitDrum$Strip")) 1 := ⟨wt_in (i := 747) (by decide +kernel) rfl, wt_in (i := 127) (by decide +kernel) rfl, by decide +kernel, by decide +kernel, by decide +kernel⟩
theorem im_X11_stripOf : Cond.instanceMethod yX11_stripOf ∈ wt_ := wt_in (i := 746) (by decide +kernel) rfl
theorem se_X11_stripOf : Cond.selects yX11_stripOf.cls yX11_stripOf yX11_stripOf ∈ wt_ := wt_in (i := 18) (by decide +kernel) rfl
theorem ml_X11_isStrip : ML yX11_isStrip cX11_isStrip 2 (some .boolean) 1 := ⟨wt_in (i := 751) (by decide +kernel) rfl, wt_in (i := 127) (by decide +kernel) rfl, by decide +kernel, by decide +kernel, by decide +kernel⟩
theorem im_X11_isStrip : Cond.instanceMethod yX11_isStrip ∈ wt_ := wt_in (i := 750) (by decide +kernel) rfl
theorem se_X11_isStrip : Cond.selects yX11_isStrip.cls yX11_isStrip yX11_isStrip ∈ wt_ := wt_in (i := 19) (by decide +kernel) rfl
theorem ml_X8_size : ML yX8_size cX8_size 1 (some .int) 0 := ⟨wt_in (i := 755) (by decide +kernel) rfl, wt_in (i := 132) (by decide +kernel) rfl, by decide +kernel, by decide +kernel, by decide +kernel⟩
theorem im_X8_size : Cond.instanceMethod yX8_size ∈ wt_ := wt_in (i := 753) (by decide +kernel) rfl
theorem se_X8_size : Cond.selects yX8_size.cls yX8_size yX8_size ∈ wt_ := wt_in (i := 754) (by decide +kernel) rfl
theorem ml_X11_round : ML yX11_round cX11_round 2 (some .int) 2 := ⟨wt_in (i := 758) (by decide +kernel) rfl, wt_in (i := 127) (by decide +kernel) rfl, by decide +kernel, by decide +kernel, by decide +kernel⟩
theorem sm_X11_round : Cond.static yX11_round ∈ wt_ := wt_in (i := 757) (by decide +kernel) rfl
theorem ml_J9_floorMod_7cf53 : ML yJ9_floorMod_7cf53 cJ9_floorMod_7cf53 3 (some .int) 2 := ⟨wt_in (i := 761) (by decide +kernel) rfl, wt_in (i := 139) (by decide +kernel) rfl, by decide +kernel, by decide +kernel, by decide +kernel⟩
theorem sm_J9_floorMod_7cf53 : Cond.static yJ9_floorMod_7cf53 ∈ wt_ := wt_in (i := 760) (by decide +kernel) rfl
theorem ml_X5_clear : ML yX5_clear cX5_clear 1 none 0 := ⟨wt_in (i := 765) (by decide +kernel) rfl, wt_in (i := 135) (by decide +kernel) rfl, by decide +kernel, by decide +kernel, by decide +kernel⟩
theorem im_X5_clear : Cond.instanceMethod yX5_clear ∈ wt_ := wt_in (i := 763) (by decide +kernel) rfl
theorem se_X5_clear : Cond.selects yX5_clear.cls yX5_clear yX5_clear ∈ wt_ := wt_in (i := 764) (by decide +kernel) rfl
theorem ml_X4_clear : ML yX4_clear cX4_clear 1 none 0 := ⟨wt_in (i := 769) (by decide +kernel) rfl, wt_in (i := 136) (by decide +kernel) rfl, by decide +kernel, by decide +kernel, by decide +kernel⟩
theorem im_X4_clear : Cond.instanceMethod yX4_clear ∈ wt_ := wt_in (i := 767) (by decide +kernel) rfl
theorem se_X4_clear : Cond.selects yX4_clear.cls yX4_clear yX4_clear ∈ wt_ := wt_in (i := 768) (by decide +kernel) rfl
theorem ml_X11_tellLaw : ML yX11_tellLaw cX11_tellLaw 1 (some .int) 0 := ⟨wt_in (i := 773) (by decide +kernel) rfl, wt_in (i := 127) (by decide +kernel) rfl, by decide +kernel, by decide +kernel, by decide +kernel⟩
theorem im_X11_tellLaw : Cond.instanceMethod yX11_tellLaw ∈ wt_ := wt_in (i := 772) (by decide +kernel) rfl
theorem se_X11_tellLaw : Cond.selects yX11_tellLaw.cls yX11_tellLaw yX11_tellLaw ∈ wt_ := wt_in (i := 20) (by decide +kernel) rfl
theorem ml_X3_written : ML yX3_written cX3_written 1 (some (.array .int)) 0 := ⟨wt_in (i := 778) (by decide +kernel) rfl, wt_in (i := 130) (by decide +kernel) rfl, by decide +kernel, by decide +kernel, by decide +kernel⟩
theorem im_X3_written : Cond.instanceMethod yX3_written ∈ wt_ := wt_in (i := 776) (by decide +kernel) rfl
theorem se_X3_written : Cond.selects yX3_written.cls yX3_written yX3_written ∈ wt_ := wt_in (i := 777) (by decide +kernel) rfl
theorem ml_J7_copyOf_59c91 : ML yJ7_copyOf_59c91 cJ7_copyOf_59c91 3 (some (.array .int)) 2 := ⟨wt_in (i := 781) (by decide +kernel) rfl, wt_in (i := 147) (by decide +kernel) rfl, by decide +kernel, by decide +kernel, by decide +kernel⟩
theorem sm_J7_copyOf_59c91 : Cond.static yJ7_copyOf_59c91 ∈ wt_ := wt_in (i := 780) (by decide +kernel) rfl
theorem ml_X2_init : ML yX2_init cX2_init 2 none 1 := ⟨wt_in (i := 793) (by decide +kernel) rfl, wt_in (i := 146) (by decide +kernel) rfl, by decide +kernel, by decide +kernel, by decide +kernel⟩
theorem im_X2_init : Cond.instanceMethod yX2_init ∈ wt_ := wt_in (i := 792) (by decide +kernel) rfl
theorem ml_X11_tellStrip : ML yX11_tellStrip cX11_tellStrip 1 (some .int) 0 := ⟨wt_in (i := 808) (by decide +kernel) rfl, wt_in (i := 127) (by decide +kernel) rfl, by decide +kernel, by decide +kernel, by decide +kernel⟩
theorem im_X11_tellStrip : Cond.instanceMethod yX11_tellStrip ∈ wt_ := wt_in (i := 807) (by decide +kernel) rfl
theorem se_X11_tellStrip : Cond.selects yX11_tellStrip.cls yX11_tellStrip yX11_tellStrip ∈ wt_ := wt_in (i := 21) (by decide +kernel) rfl
theorem ml_X9_written : ML yX9_written cX9_written 1 (some (.array .int)) 0 := ⟨wt_in (i := 812) (by decide +kernel) rfl, wt_in (i := 131) (by decide +kernel) rfl, by decide +kernel, by decide +kernel, by decide +kernel⟩
theorem im_X9_written : Cond.instanceMethod yX9_written ∈ wt_ := wt_in (i := 810) (by decide +kernel) rfl
theorem se_X9_written : Cond.selects yX9_written.cls yX9_written yX9_written ∈ wt_ := wt_in (i := 811) (by decide +kernel) rfl
theorem ml_X11_rule : ML yX11_rule cX11_rule 2 (some .int) 1 := ⟨wt_in (i := 817) (by decide +kernel) rfl, wt_in (i := 127) (by decide +kernel) rfl, by decide +kernel, by decide +kernel, by decide +kernel⟩
theorem im_X11_rule : Cond.instanceMethod yX11_rule ∈ wt_ := wt_in (i := 815) (by decide +kernel) rfl
theorem se_X11_rule : Cond.selects yX11_rule.cls yX11_rule yX11_rule ∈ wt_ := wt_in (i := 816) (by decide +kernel) rfl
theorem ml_X11_isLit : ML yX11_isLit cX11_isLit 1 (some .boolean) 0 := ⟨wt_in (i := 821) (by decide +kernel) rfl, wt_in (i := 127) (by decide +kernel) rfl, by decide +kernel, by decide +kernel, by decide +kernel⟩
theorem im_X11_isLit : Cond.instanceMethod yX11_isLit ∈ wt_ := wt_in (i := 820) (by decide +kernel) rfl
theorem se_X11_isLit : Cond.selects yX11_isLit.cls yX11_isLit yX11_isLit ∈ wt_ := wt_in (i := 22) (by decide +kernel) rfl
theorem ml_X11_picture : ML yX11_picture cX11_picture 4 (some .int) 2 := ⟨wt_in (i := 825) (by decide +kernel) rfl, wt_in (i := 127) (by decide +kernel) rfl, by decide +kernel, by decide +kernel, by decide +kernel⟩
theorem im_X11_picture : Cond.instanceMethod yX11_picture ∈ wt_ := wt_in (i := 823) (by decide +kernel) rfl
theorem se_X11_picture : Cond.selects yX11_picture.cls yX11_picture yX11_picture ∈ wt_ := wt_in (i := 824) (by decide +kernel) rfl
theorem ml_X8_shownAt : ML yX8_shownAt cX8_shownAt 2 (some .int) 1 := ⟨wt_in (i := 829) (by decide +kernel) rfl, wt_in (i := 132) (by decide +kernel) rfl, by decide +kernel, by decide +kernel, by decide +kernel⟩
theorem im_X8_shownAt : Cond.instanceMethod yX8_shownAt ∈ wt_ := wt_in (i := 827) (by decide +kernel) rfl
theorem se_X8_shownAt : Cond.selects yX8_shownAt.cls yX8_shownAt yX8_shownAt ∈ wt_ := wt_in (i := 828) (by decide +kernel) rfl
theorem ml_X11_law : ML yX11_law cX11_law 2 (some .boolean) 1 := ⟨wt_in (i := 834) (by decide +kernel) rfl, wt_in (i := 127) (by decide +kernel) rfl, by decide +kernel, by decide +kernel, by decide +kernel⟩
theorem im_X11_law : Cond.instanceMethod yX11_law ∈ wt_ := wt_in (i := 832) (by decide +kernel) rfl
theorem se_X11_law : Cond.selects yX11_law.cls yX11_law yX11_law ∈ wt_ := wt_in (i := 833) (by decide +kernel) rfl
theorem ml_X11_touch : ML yX11_touch cX11_touch 2 (some .boolean) 1 := ⟨wt_in (i := 838) (by decide +kernel) rfl, wt_in (i := 127) (by decide +kernel) rfl, by decide +kernel, by decide +kernel, by decide +kernel⟩
theorem im_X11_touch : Cond.instanceMethod yX11_touch ∈ wt_ := wt_in (i := 836) (by decide +kernel) rfl
theorem se_X11_touch : Cond.selects yX11_touch.cls yX11_touch yX11_touch ∈ wt_ := wt_in (i := 837) (by decide +kernel) rfl
theorem ml_X11_ticks : ML yX11_ticks cX11_ticks 3 (some .int) 1 := ⟨wt_in (i := 842) (by decide +kernel) rfl, wt_in (i := 127) (by decide +kernel) rfl, by decide +kernel, by decide +kernel, by decide +kernel⟩
theorem im_X11_ticks : Cond.instanceMethod yX11_ticks ∈ wt_ := wt_in (i := 840) (by decide +kernel) rfl
theorem se_X11_ticks : Cond.selects yX11_ticks.cls yX11_ticks yX11_ticks ∈ wt_ := wt_in (i := 841) (by decide +kernel) rfl
theorem ml_X11_refused : ML yX11_refused cX11_refused 2 (some .int) 1 := ⟨wt_in (i := 846) (by decide +kernel) rfl, wt_in (i := 127) (by decide +kernel) rfl, by decide +kernel, by decide +kernel, by decide +kernel⟩
theorem im_X11_refused : Cond.instanceMethod yX11_refused ∈ wt_ := wt_in (i := 845) (by decide +kernel) rfl
theorem se_X11_refused : Cond.selects yX11_refused.cls yX11_refused yX11_refused ∈ wt_ := wt_in (i := 23) (by decide +kernel) rfl
theorem ml_X5_keep : ML yX5_keep cX5_keep 2 none 1 := ⟨wt_in (i := 850) (by decide +kernel) rfl, wt_in (i := 135) (by decide +kernel) rfl, by decide +kernel, by decide +kernel, by decide +kernel⟩
theorem im_X5_keep : Cond.instanceMethod yX5_keep ∈ wt_ := wt_in (i := 848) (by decide +kernel) rfl
theorem se_X5_keep : Cond.selects yX5_keep.cls yX5_keep yX5_keep ∈ wt_ := wt_in (i := 849) (by decide +kernel) rfl
theorem ml_X7_copyFrom : ML yX7_copyFrom cX7_copyFrom 3 none 1 := ⟨wt_in (i := 855) (by decide +kernel) rfl, wt_in (i := 133) (by decide +kernel) rfl, by decide +kernel, by decide +kernel, by decide +kernel⟩
theorem im_X7_copyFrom : Cond.instanceMethod yX7_copyFrom ∈ wt_ := wt_in (i := 853) (by decide +kernel) rfl
theorem se_X7_copyFrom : Cond.selects yX7_copyFrom.cls yX7_copyFrom yX7_copyFrom ∈ wt_ := wt_in (i := 854) (by decide +kernel) rfl
theorem ml_X10_copyFrom : ML yX10_copyFrom cX10_copyFrom 2 none 1 := ⟨wt_in (i := 859) (by decide +kernel) rfl, wt_in (i := 134) (by decide +kernel) rfl, by decide +kernel, by decide +kernel, by decide +kernel⟩
theorem im_X10_copyFrom : Cond.instanceMethod yX10_copyFrom ∈ wt_ := wt_in (i := 857) (by decide +kernel) rfl
theorem se_X10_copyFrom : Cond.selects yX10_copyFrom.cls yX10_copyFrom yX10_copyFrom ∈ wt_ := wt_in (i := 858) (by decide +kernel) rfl
theorem ml_X11_tickOnce : ML yX11_tickOnce cX11_tickOnce 2 none 0 := ⟨wt_in (i := 865) (by decide +kernel) rfl, wt_in (i := 127) (by decide +kernel) rfl, by decide +kernel, by decide +kernel, by decide +kernel⟩
theorem im_X11_tickOnce : Cond.instanceMethod yX11_tickOnce ∈ wt_ := wt_in (i := 864) (by decide +kernel) rfl
theorem se_X11_tickOnce : Cond.selects yX11_tickOnce.cls yX11_tickOnce yX11_tickOnce ∈ wt_ := wt_in (i := 24) (by decide +kernel) rfl
theorem ml_X11_nextPlace : ML yX11_nextPlace cX11_nextPlace 2 (some .int) 1 := ⟨wt_in (i := 869) (by decide +kernel) rfl, wt_in (i := 127) (by decide +kernel) rfl, by decide +kernel, by decide +kernel, by decide +kernel⟩
theorem im_X11_nextPlace : Cond.instanceMethod yX11_nextPlace ∈ wt_ := wt_in (i := 868) (by decide +kernel) rfl
theorem se_X11_nextPlace : Cond.selects yX11_nextPlace.cls yX11_nextPlace yX11_nextPlace ∈ wt_ := wt_in (i := 25) (by decide +kernel) rfl
theorem ml_X11_courseOf : ML yX11_courseOf cX11_courseOf 3 (some (.object "SlitDrum$Course")) 1 := ⟨wt_in (i := 873) (by decide +kernel) rfl, wt_in (i := 127) (by decide +kernel) rfl, by decide +kernel, by decide +kernel, by decide +kernel⟩
theorem im_X11_courseOf : Cond.instanceMethod yX11_courseOf ∈ wt_ := wt_in (i := 872) (by decide +kernel) rfl
theorem se_X11_courseOf : Cond.selects yX11_courseOf.cls yX11_courseOf yX11_courseOf ∈ wt_ := wt_in (i := 26) (by decide +kernel) rfl
theorem ml_X11_lawNow : ML yX11_lawNow cX11_lawNow 1 (some (.object "SlitDrum$Law")) 0 := ⟨wt_in (i := 877) (by decide +kernel) rfl, wt_in (i := 127) (by decide +kernel) rfl, by decide +kernel, by decide +kernel, by decide +kernel⟩
theorem im_X11_lawNow : Cond.instanceMethod yX11_lawNow ∈ wt_ := wt_in (i := 876) (by decide +kernel) rfl
theorem se_X11_lawNow : Cond.selects yX11_lawNow.cls yX11_lawNow yX11_lawNow ∈ wt_ := wt_in (i := 27) (by decide +kernel) rfl
theorem ml_X0_set : ML yX0_set cX0_set 6 none 5 := ⟨wt_in (i := 881) (by decide +kernel) rfl, wt_in (i := 137) (by decide +kernel) rfl, by decide +kernel, by decide +kernel, by decide +kernel⟩
theorem im_X0_set : Cond.instanceMethod yX0_set ∈ wt_ := wt_in (i := 879) (by decide +kernel) rfl
theorem se_X0_set : Cond.selects yX0_set.cls yX0_set yX0_set ∈ wt_ := wt_in (i := 880) (by decide +kernel) rfl
theorem ml_X10_velocity : ML yX10_velocity cX10_velocity 1 (some .int) 0 := ⟨wt_in (i := 885) (by decide +kernel) rfl, wt_in (i := 134) (by decide +kernel) rfl, by decide +kernel, by decide +kernel, by decide +kernel⟩
theorem im_X10_velocity : Cond.instanceMethod yX10_velocity ∈ wt_ := wt_in (i := 883) (by decide +kernel) rfl
theorem se_X10_velocity : Cond.selects yX10_velocity.cls yX10_velocity yX10_velocity ∈ wt_ := wt_in (i := 884) (by decide +kernel) rfl
theorem ml_X0_movedFrom : ML yX0_movedFrom cX0_movedFrom 4 (some .int) 2 := ⟨wt_in (i := 890) (by decide +kernel) rfl, wt_in (i := 137) (by decide +kernel) rfl, by decide +kernel, by decide +kernel, by decide +kernel⟩
theorem im_X0_movedFrom : Cond.instanceMethod yX0_movedFrom ∈ wt_ := wt_in (i := 888) (by decide +kernel) rfl
theorem se_X0_movedFrom : Cond.selects yX0_movedFrom.cls yX0_movedFrom yX0_movedFrom ∈ wt_ := wt_in (i := 889) (by decide +kernel) rfl
theorem ml_X2_worth : ML yX2_worth cX2_worth 6 (some .int) 1 := ⟨wt_in (i := 896) (by decide +kernel) rfl, wt_in (i := 146) (by decide +kernel) rfl, by decide +kernel, by decide +kernel, by decide +kernel⟩
theorem im_X2_worth : Cond.instanceMethod yX2_worth ∈ wt_ := wt_in (i := 894) (by decide +kernel) rfl
theorem se_X2_worth : Cond.selects yX2_worth.cls yX2_worth yX2_worth ∈ wt_ := wt_in (i := 895) (by decide +kernel) rfl
theorem ml_X2_pull : ML yX2_pull cX2_pull 1 (some .int) 0 := ⟨wt_in (i := 900) (by decide +kernel) rfl, wt_in (i := 146) (by decide +kernel) rfl, by decide +kernel, by decide +kernel, by decide +kernel⟩
theorem im_X2_pull : Cond.instanceMethod yX2_pull ∈ wt_ := wt_in (i := 899) (by decide +kernel) rfl
theorem se_X2_pull : Cond.selects yX2_pull.cls yX2_pull yX2_pull ∈ wt_ := wt_in (i := 28) (by decide +kernel) rfl
theorem ml_X2_pile : ML yX2_pile cX2_pile 2 none 1 := ⟨wt_in (i := 905) (by decide +kernel) rfl, wt_in (i := 146) (by decide +kernel) rfl, by decide +kernel, by decide +kernel, by decide +kernel⟩
theorem im_X2_pile : Cond.instanceMethod yX2_pile ∈ wt_ := wt_in (i := 904) (by decide +kernel) rfl
theorem se_X2_pile : Cond.selects yX2_pile.cls yX2_pile yX2_pile ∈ wt_ := wt_in (i := 29) (by decide +kernel) rfl
theorem ml_X2_joined : ML yX2_joined cX2_joined 3 (some .long) 3 := ⟨wt_in (i := 908) (by decide +kernel) rfl, wt_in (i := 146) (by decide +kernel) rfl, by decide +kernel, by decide +kernel, by decide +kernel⟩
theorem sm_X2_joined : Cond.static yX2_joined ∈ wt_ := wt_in (i := 907) (by decide +kernel) rfl
theorem ml_X11_within : ML yX11_within cX11_within 4 (some .int) 3 := ⟨wt_in (i := 913) (by decide +kernel) rfl, wt_in (i := 127) (by decide +kernel) rfl, by decide +kernel, by decide +kernel, by decide +kernel⟩
theorem sm_X11_within : Cond.static yX11_within ∈ wt_ := wt_in (i := 912) (by decide +kernel) rfl
theorem ml_J9_min_f86c9 : ML yJ9_min_f86c9 cJ9_min_f86c9 4 (some .long) 2 := ⟨wt_in (i := 916) (by decide +kernel) rfl, wt_in (i := 139) (by decide +kernel) rfl, by decide +kernel, by decide +kernel, by decide +kernel⟩
theorem sm_J9_min_f86c9 : Cond.static yJ9_min_f86c9 ∈ wt_ := wt_in (i := 915) (by decide +kernel) rfl
theorem ml_J9_max_f86c9 : ML yJ9_max_f86c9 cJ9_max_f86c9 4 (some .long) 2 := ⟨wt_in (i := 919) (by decide +kernel) rfl, wt_in (i := 139) (by decide +kernel) rfl, by decide +kernel, by decide +kernel, by decide +kernel⟩
theorem sm_J9_max_f86c9 : Cond.static yJ9_max_f86c9 ∈ wt_ := wt_in (i := 918) (by decide +kernel) rfl
theorem ml_X11_lookOnce : ML yX11_lookOnce cX11_lookOnce 4 none 0 := ⟨wt_in (i := 924) (by decide +kernel) rfl, wt_in (i := 127) (by decide +kernel) rfl, by decide +kernel, by decide +kernel, by decide +kernel⟩
theorem im_X11_lookOnce : Cond.instanceMethod yX11_lookOnce ∈ wt_ := wt_in (i := 923) (by decide +kernel) rfl
theorem se_X11_lookOnce : Cond.selects yX11_lookOnce.cls yX11_lookOnce yX11_lookOnce ∈ wt_ := wt_in (i := 30) (by decide +kernel) rfl
theorem ml_X11_shown : ML yX11_shown cX11_shown 2 (some .int) 1 := ⟨wt_in (i := 928) (by decide +kernel) rfl, wt_in (i := 127) (by decide +kernel) rfl, by decide +kernel, by decide +kernel, by decide +kernel⟩
theorem im_X11_shown : Cond.instanceMethod yX11_shown ∈ wt_ := wt_in (i := 927) (by decide +kernel) rfl
theorem se_X11_shown : Cond.selects yX11_shown.cls yX11_shown yX11_shown ∈ wt_ := wt_in (i := 31) (by decide +kernel) rfl
theorem ml_X7_addRow : ML yX7_addRow cX7_addRow 2 none 1 := ⟨wt_in (i := 932) (by decide +kernel) rfl, wt_in (i := 133) (by decide +kernel) rfl, by decide +kernel, by decide +kernel, by decide +kernel⟩
theorem im_X7_addRow : Cond.instanceMethod yX7_addRow ∈ wt_ := wt_in (i := 930) (by decide +kernel) rfl
theorem se_X7_addRow : Cond.selects yX7_addRow.cls yX7_addRow yX7_addRow ∈ wt_ := wt_in (i := 931) (by decide +kernel) rfl
theorem ml_X11_allShowOne : ML yX11_allShowOne cX11_allShowOne 4 (some .boolean) 0 := ⟨wt_in (i := 937) (by decide +kernel) rfl, wt_in (i := 127) (by decide +kernel) rfl, by decide +kernel, by decide +kernel, by decide +kernel⟩
theorem im_X11_allShowOne : Cond.instanceMethod yX11_allShowOne ∈ wt_ := wt_in (i := 936) (by decide +kernel) rfl
theorem se_X11_allShowOne : Cond.selects yX11_allShowOne.cls yX11_allShowOne yX11_allShowOne ∈ wt_ := wt_in (i := 32) (by decide +kernel) rfl
theorem ml_X11_flash : ML yX11_flash cX11_flash 3 (some .int) 1 := ⟨wt_in (i := 941) (by decide +kernel) rfl, wt_in (i := 127) (by decide +kernel) rfl, by decide +kernel, by decide +kernel, by decide +kernel⟩
theorem im_X11_flash : Cond.instanceMethod yX11_flash ∈ wt_ := wt_in (i := 939) (by decide +kernel) rfl
theorem se_X11_flash : Cond.selects yX11_flash.cls yX11_flash yX11_flash ∈ wt_ := wt_in (i := 940) (by decide +kernel) rfl
theorem ml_X11_speed : ML yX11_speed cX11_speed 5 (some .int) 2 := ⟨wt_in (i := 945) (by decide +kernel) rfl, wt_in (i := 127) (by decide +kernel) rfl, by decide +kernel, by decide +kernel, by decide +kernel⟩
theorem im_X11_speed : Cond.instanceMethod yX11_speed ∈ wt_ := wt_in (i := 943) (by decide +kernel) rfl
theorem se_X11_speed : Cond.selects yX11_speed.cls yX11_speed yX11_speed ∈ wt_ := wt_in (i := 944) (by decide +kernel) rfl
theorem ml_X11_isWheel : ML yX11_isWheel cX11_isWheel 2 (some .boolean) 1 := ⟨wt_in (i := 949) (by decide +kernel) rfl, wt_in (i := 127) (by decide +kernel) rfl, by decide +kernel, by decide +kernel, by decide +kernel⟩
theorem im_X11_isWheel : Cond.instanceMethod yX11_isWheel ∈ wt_ := wt_in (i := 948) (by decide +kernel) rfl
theorem se_X11_isWheel : Cond.selects yX11_isWheel.cls yX11_isWheel yX11_isWheel ∈ wt_ := wt_in (i := 33) (by decide +kernel) rfl
theorem ml_X11_about : ML yX11_about cX11_about 3 (some .int) 1 := ⟨wt_in (i := 953) (by decide +kernel) rfl, wt_in (i := 127) (by decide +kernel) rfl, by decide +kernel, by decide +kernel, by decide +kernel⟩
theorem im_X11_about : Cond.instanceMethod yX11_about ∈ wt_ := wt_in (i := 951) (by decide +kernel) rfl
theorem se_X11_about : Cond.selects yX11_about.cls yX11_about yX11_about ∈ wt_ := wt_in (i := 952) (by decide +kernel) rfl
theorem ml_X11_push : ML yX11_push cX11_push 3 (some .int) 2 := ⟨wt_in (i := 957) (by decide +kernel) rfl, wt_in (i := 127) (by decide +kernel) rfl, by decide +kernel, by decide +kernel, by decide +kernel⟩
theorem im_X11_push : Cond.instanceMethod yX11_push ∈ wt_ := wt_in (i := 955) (by decide +kernel) rfl
theorem se_X11_push : Cond.selects yX11_push.cls yX11_push yX11_push ∈ wt_ := wt_in (i := 956) (by decide +kernel) rfl
theorem ml_X11_shove : ML yX11_shove cX11_shove 3 none 2 := ⟨wt_in (i := 961) (by decide +kernel) rfl, wt_in (i := 127) (by decide +kernel) rfl, by decide +kernel, by decide +kernel, by decide +kernel⟩
theorem im_X11_shove : Cond.instanceMethod yX11_shove ∈ wt_ := wt_in (i := 960) (by decide +kernel) rfl
theorem se_X11_shove : Cond.selects yX11_shove.cls yX11_shove yX11_shove ∈ wt_ := wt_in (i := 34) (by decide +kernel) rfl
theorem ml_X11_puts : ML yX11_puts cX11_puts 5 (some .int) 2 := ⟨wt_in (i := 965) (by decide +kernel) rfl, wt_in (i := 127) (by decide +kernel) rfl, by decide +kernel, by decide +kernel, by decide +kernel⟩
theorem im_X11_puts : Cond.instanceMethod yX11_puts ∈ wt_ := wt_in (i := 963) (by decide +kernel) rfl
theorem se_X11_puts : Cond.selects yX11_puts.cls yX11_puts yX11_puts ∈ wt_ := wt_in (i := 964) (by decide +kernel) rfl
theorem ml_X11_oil : ML yX11_oil cX11_oil 3 (some .int) 1 := ⟨wt_in (i := 969) (by decide +kernel) rfl, wt_in (i := 127) (by decide +kernel) rfl, by decide +kernel, by decide +kernel, by decide +kernel⟩
theorem im_X11_oil : Cond.instanceMethod yX11_oil ∈ wt_ := wt_in (i := 967) (by decide +kernel) rfl
theorem se_X11_oil : Cond.selects yX11_oil.cls yX11_oil yX11_oil ∈ wt_ := wt_in (i := 968) (by decide +kernel) rfl
theorem ml_X11_give : ML yX11_give cX11_give 2 (some .int) 1 := ⟨wt_in (i := 973) (by decide +kernel) rfl, wt_in (i := 127) (by decide +kernel) rfl, by decide +kernel, by decide +kernel, by decide +kernel⟩
theorem im_X11_give : Cond.instanceMethod yX11_give ∈ wt_ := wt_in (i := 971) (by decide +kernel) rfl
theorem se_X11_give : Cond.selects yX11_give.cls yX11_give yX11_give ∈ wt_ := wt_in (i := 972) (by decide +kernel) rfl
theorem ml_X11_years : ML yX11_years cX11_years 5 (some .int) 2 := ⟨wt_in (i := 977) (by decide +kernel) rfl, wt_in (i := 127) (by decide +kernel) rfl, by decide +kernel, by decide +kernel, by decide +kernel⟩
theorem im_X11_years : Cond.instanceMethod yX11_years ∈ wt_ := wt_in (i := 975) (by decide +kernel) rfl
theorem se_X11_years : Cond.selects yX11_years.cls yX11_years yX11_years ∈ wt_ := wt_in (i := 976) (by decide +kernel) rfl
theorem ml_X11_meddle : ML yX11_meddle cX11_meddle 3 none 0 := ⟨wt_in (i := 981) (by decide +kernel) rfl, wt_in (i := 127) (by decide +kernel) rfl, by decide +kernel, by decide +kernel, by decide +kernel⟩
theorem im_X11_meddle : Cond.instanceMethod yX11_meddle ∈ wt_ := wt_in (i := 980) (by decide +kernel) rfl
theorem se_X11_meddle : Cond.selects yX11_meddle.cls yX11_meddle yX11_meddle ∈ wt_ := wt_in (i := 35) (by decide +kernel) rfl
theorem ml_X11_draw : ML yX11_draw cX11_draw 2 (some .int) 1 := ⟨wt_in (i := 985) (by decide +kernel) rfl, wt_in (i := 127) (by decide +kernel) rfl, by decide +kernel, by decide +kernel, by decide +kernel⟩
theorem im_X11_draw : Cond.instanceMethod yX11_draw ∈ wt_ := wt_in (i := 984) (by decide +kernel) rfl
theorem se_X11_draw : Cond.selects yX11_draw.cls yX11_draw yX11_draw ∈ wt_ := wt_in (i := 36) (by decide +kernel) rfl
theorem ml_X11_status : ML yX11_status cX11_status 2 (some .int) 1 := ⟨wt_in (i := 992) (by decide +kernel) rfl, wt_in (i := 127) (by decide +kernel) rfl, by decide +kernel, by decide +kernel, by decide +kernel⟩
theorem im_X11_status : Cond.instanceMethod yX11_status ∈ wt_ := wt_in (i := 990) (by decide +kernel) rfl
theorem se_X11_status : Cond.selects yX11_status.cls yX11_status yX11_status ∈ wt_ := wt_in (i := 991) (by decide +kernel) rfl
theorem ml_X11_undo : ML yX11_undo cX11_undo 1 (some .int) 0 := ⟨wt_in (i := 996) (by decide +kernel) rfl, wt_in (i := 127) (by decide +kernel) rfl, by decide +kernel, by decide +kernel, by decide +kernel⟩
theorem im_X11_undo : Cond.instanceMethod yX11_undo ∈ wt_ := wt_in (i := 994) (by decide +kernel) rfl
theorem se_X11_undo : Cond.selects yX11_undo.cls yX11_undo yX11_undo ∈ wt_ := wt_in (i := 995) (by decide +kernel) rfl
theorem ml_X5_bringBack : ML yX5_bringBack cX5_bringBack 2 (some .int) 1 := ⟨wt_in (i := 1000) (by decide +kernel) rfl, wt_in (i := 135) (by decide +kernel) rfl, by decide +kernel, by decide +kernel, by decide +kernel⟩
theorem im_X5_bringBack : Cond.instanceMethod yX5_bringBack ∈ wt_ := wt_in (i := 998) (by decide +kernel) rfl
theorem se_X5_bringBack : Cond.selects yX5_bringBack.cls yX5_bringBack yX5_bringBack ∈ wt_ := wt_in (i := 999) (by decide +kernel) rfl
theorem ml_X11_log : ML yX11_log cX11_log 3 (some .int) 2 := ⟨wt_in (i := 1004) (by decide +kernel) rfl, wt_in (i := 127) (by decide +kernel) rfl, by decide +kernel, by decide +kernel, by decide +kernel⟩
theorem im_X11_log : Cond.instanceMethod yX11_log ∈ wt_ := wt_in (i := 1002) (by decide +kernel) rfl
theorem se_X11_log : Cond.selects yX11_log.cls yX11_log yX11_log ∈ wt_ := wt_in (i := 1003) (by decide +kernel) rfl
theorem ml_X7_rowCount : ML yX7_rowCount cX7_rowCount 1 (some .int) 0 := ⟨wt_in (i := 1008) (by decide +kernel) rfl, wt_in (i := 133) (by decide +kernel) rfl, by decide +kernel, by decide +kernel, by decide +kernel⟩
theorem im_X7_rowCount : Cond.instanceMethod yX7_rowCount ∈ wt_ := wt_in (i := 1006) (by decide +kernel) rfl
theorem se_X7_rowCount : Cond.selects yX7_rowCount.cls yX7_rowCount yX7_rowCount ∈ wt_ := wt_in (i := 1007) (by decide +kernel) rfl
theorem ml_X7_rowBefore : ML yX7_rowBefore cX7_rowBefore 2 (some .int) 1 := ⟨wt_in (i := 1013) (by decide +kernel) rfl, wt_in (i := 133) (by decide +kernel) rfl, by decide +kernel, by decide +kernel, by decide +kernel⟩
theorem im_X7_rowBefore : Cond.instanceMethod yX7_rowBefore ∈ wt_ := wt_in (i := 1011) (by decide +kernel) rfl
theorem se_X7_rowBefore : Cond.selects yX7_rowBefore.cls yX7_rowBefore yX7_rowBefore ∈ wt_ := wt_in (i := 1012) (by decide +kernel) rfl
theorem ml_X11_at : ML yX11_at cX11_at 3 (some .int) 2 := ⟨wt_in (i := 1017) (by decide +kernel) rfl, wt_in (i := 127) (by decide +kernel) rfl, by decide +kernel, by decide +kernel, by decide +kernel⟩
theorem im_X11_at : Cond.instanceMethod yX11_at ∈ wt_ := wt_in (i := 1015) (by decide +kernel) rfl
theorem se_X11_at : Cond.selects yX11_at.cls yX11_at yX11_at ∈ wt_ := wt_in (i := 1016) (by decide +kernel) rfl
theorem ml_X11_traced : ML yX11_traced cX11_traced 3 (some (.object "SlitDrum$Course")) 1 := ⟨wt_in (i := 1021) (by decide +kernel) rfl, wt_in (i := 127) (by decide +kernel) rfl, by decide +kernel, by decide +kernel, by decide +kernel⟩
theorem im_X11_traced : Cond.instanceMethod yX11_traced ∈ wt_ := wt_in (i := 1020) (by decide +kernel) rfl
theorem se_X11_traced : Cond.selects yX11_traced.cls yX11_traced yX11_traced ∈ wt_ := wt_in (i := 37) (by decide +kernel) rfl
theorem ml_X0_trace : ML yX0_trace cX0_trace 3 none 0 := ⟨wt_in (i := 1025) (by decide +kernel) rfl, wt_in (i := 137) (by decide +kernel) rfl, by decide +kernel, by decide +kernel, by decide +kernel⟩
theorem im_X0_trace : Cond.instanceMethod yX0_trace ∈ wt_ := wt_in (i := 1023) (by decide +kernel) rfl
theorem se_X0_trace : Cond.selects yX0_trace.cls yX0_trace yX0_trace ∈ wt_ := wt_in (i := 1024) (by decide +kernel) rfl
theorem ml_J7_fill_53178 : ML yJ7_fill_53178 cJ7_fill_53178 4 none 2 := ⟨wt_in (i := 1028) (by decide +kernel) rfl, wt_in (i := 147) (by decide +kernel) rfl, by decide +kernel, by decide +kernel, by decide +kernel⟩
theorem sm_J7_fill_53178 : Cond.static yJ7_fill_53178 ∈ wt_ := wt_in (i := 1027) (by decide +kernel) rfl
theorem ml_X0_shownAfter : ML yX0_shownAfter cX0_shownAfter 2 (some .int) 1 := ⟨wt_in (i := 1033) (by decide +kernel) rfl, wt_in (i := 137) (by decide +kernel) rfl, by decide +kernel, by decide +kernel, by decide +kernel⟩
theorem im_X0_shownAfter : Cond.instanceMethod yX0_shownAfter ∈ wt_ := wt_in (i := 1031) (by decide +kernel) rfl
theorem se_X0_shownAfter : Cond.selects yX0_shownAfter.cls yX0_shownAfter yX0_shownAfter ∈ wt_ := wt_in (i := 1032) (by decide +kernel) rfl
theorem ml_X0_placeAfter : ML yX0_placeAfter cX0_placeAfter 3 (some .int) 1 := ⟨wt_in (i := 1037) (by decide +kernel) rfl, wt_in (i := 137) (by decide +kernel) rfl, by decide +kernel, by decide +kernel, by decide +kernel⟩
theorem im_X0_placeAfter : Cond.instanceMethod yX0_placeAfter ∈ wt_ := wt_in (i := 1035) (by decide +kernel) rfl
theorem se_X0_placeAfter : Cond.selects yX0_placeAfter.cls yX0_placeAfter yX0_placeAfter ∈ wt_ := wt_in (i := 1036) (by decide +kernel) rfl
theorem ml_X11_seems : ML yX11_seems cX11_seems 6 (some .int) 2 := ⟨wt_in (i := 1041) (by decide +kernel) rfl, wt_in (i := 127) (by decide +kernel) rfl, by decide +kernel, by decide +kernel, by decide +kernel⟩
theorem im_X11_seems : Cond.instanceMethod yX11_seems ∈ wt_ := wt_in (i := 1039) (by decide +kernel) rfl
theorem se_X11_seems : Cond.selects yX11_seems.cls yX11_seems yX11_seems ∈ wt_ := wt_in (i := 1040) (by decide +kernel) rfl
theorem ml_X11_stands : ML yX11_stands cX11_stands 6 (some .int) 2 := ⟨wt_in (i := 1047) (by decide +kernel) rfl, wt_in (i := 127) (by decide +kernel) rfl, by decide +kernel, by decide +kernel, by decide +kernel⟩
theorem im_X11_stands : Cond.instanceMethod yX11_stands ∈ wt_ := wt_in (i := 1045) (by decide +kernel) rfl
theorem se_X11_stands : Cond.selects yX11_stands.cls yX11_stands yX11_stands ∈ wt_ := wt_in (i := 1046) (by decide +kernel) rfl
theorem ml_X0_isStillBy : ML yX0_isStillBy cX0_isStillBy 4 (some .boolean) 1 := ⟨wt_in (i := 1051) (by decide +kernel) rfl, wt_in (i := 137) (by decide +kernel) rfl, by decide +kernel, by decide +kernel, by decide +kernel⟩
theorem im_X0_isStillBy : Cond.instanceMethod yX0_isStillBy ∈ wt_ := wt_in (i := 1049) (by decide +kernel) rfl
theorem se_X0_isStillBy : Cond.selects yX0_isStillBy.cls yX0_isStillBy yX0_isStillBy ∈ wt_ := wt_in (i := 1050) (by decide +kernel) rfl
theorem ml_X0_isHomeAfter : ML yX0_isHomeAfter cX0_isHomeAfter 2 (some .boolean) 1 := ⟨wt_in (i := 1055) (by decide +kernel) rfl, wt_in (i := 137) (by decide +kernel) rfl, by decide +kernel, by decide +kernel, by decide +kernel⟩
theorem im_X0_isHomeAfter : Cond.instanceMethod yX0_isHomeAfter ∈ wt_ := wt_in (i := 1053) (by decide +kernel) rfl
theorem se_X0_isHomeAfter : Cond.selects yX0_isHomeAfter.cls yX0_isHomeAfter yX0_isHomeAfter ∈ wt_ := wt_in (i := 1054) (by decide +kernel) rfl
theorem ml_X11_together : ML yX11_together cX11_together 4 (some .int) 0 := ⟨wt_in (i := 1059) (by decide +kernel) rfl, wt_in (i := 127) (by decide +kernel) rfl, by decide +kernel, by decide +kernel, by decide +kernel⟩
theorem im_X11_together : Cond.instanceMethod yX11_together ∈ wt_ := wt_in (i := 1057) (by decide +kernel) rfl
theorem se_X11_together : Cond.selects yX11_together.cls yX11_together yX11_together ∈ wt_ := wt_in (i := 1058) (by decide +kernel) rfl
theorem ml_X11_traceAll : ML yX11_traceAll cX11_traceAll 2 none 0 := ⟨wt_in (i := 1063) (by decide +kernel) rfl, wt_in (i := 127) (by decide +kernel) rfl, by decide +kernel, by decide +kernel, by decide +kernel⟩
theorem im_X11_traceAll : Cond.instanceMethod yX11_traceAll ∈ wt_ := wt_in (i := 1062) (by decide +kernel) rfl
theorem se_X11_traceAll : Cond.selects yX11_traceAll.cls yX11_traceAll yX11_traceAll ∈ wt_ := wt_in (i := 38) (by decide +kernel) rfl
theorem ml_X11_again : ML yX11_again cX11_again 9 (some .int) 1 := ⟨wt_in (i := 1067) (by decide +kernel) rfl, wt_in (i := 127) (by decide +kernel) rfl, by decide +kernel, by decide +kernel, by decide +kernel⟩
theorem im_X11_again : Cond.instanceMethod yX11_again ∈ wt_ := wt_in (i := 1065) (by decide +kernel) rfl
theorem se_X11_again : Cond.selects yX11_again.cls yX11_again yX11_again ∈ wt_ := wt_in (i := 1066) (by decide +kernel) rfl
theorem ml_X11_meets : ML yX11_meets cX11_meets 7 (some .int) 2 := ⟨wt_in (i := 1072) (by decide +kernel) rfl, wt_in (i := 127) (by decide +kernel) rfl, by decide +kernel, by decide +kernel, by decide +kernel⟩
theorem im_X11_meets : Cond.instanceMethod yX11_meets ∈ wt_ := wt_in (i := 1070) (by decide +kernel) rfl
theorem se_X11_meets : Cond.selects yX11_meets.cls yX11_meets yX11_meets ∈ wt_ := wt_in (i := 1071) (by decide +kernel) rfl
theorem ml_X11_reads : ML yX11_reads cX11_reads 5 (some .int) 1 := ⟨wt_in (i := 1076) (by decide +kernel) rfl, wt_in (i := 127) (by decide +kernel) rfl, by decide +kernel, by decide +kernel, by decide +kernel⟩
theorem im_X11_reads : Cond.instanceMethod yX11_reads ∈ wt_ := wt_in (i := 1074) (by decide +kernel) rfl
theorem se_X11_reads : Cond.selects yX11_reads.cls yX11_reads yX11_reads ∈ wt_ := wt_in (i := 1075) (by decide +kernel) rfl
theorem ml_X11_period : ML yX11_period cX11_period 2 (some .int) 1 := ⟨wt_in (i := 1080) (by decide +kernel) rfl, wt_in (i := 127) (by decide +kernel) rfl, by decide +kernel, by decide +kernel, by decide +kernel⟩
theorem im_X11_period : Cond.instanceMethod yX11_period ∈ wt_ := wt_in (i := 1078) (by decide +kernel) rfl
theorem se_X11_period : Cond.selects yX11_period.cls yX11_period yX11_period ∈ wt_ := wt_in (i := 1079) (by decide +kernel) rfl
theorem ml_X8_leastPeriod : ML yX8_leastPeriod cX8_leastPeriod 2 (some .int) 0 := ⟨wt_in (i := 1084) (by decide +kernel) rfl, wt_in (i := 132) (by decide +kernel) rfl, by decide +kernel, by decide +kernel, by decide +kernel⟩
theorem im_X8_leastPeriod : Cond.instanceMethod yX8_leastPeriod ∈ wt_ := wt_in (i := 1082) (by decide +kernel) rfl
theorem se_X8_leastPeriod : Cond.selects yX8_leastPeriod.cls yX8_leastPeriod yX8_leastPeriod ∈ wt_ := wt_in (i := 1083) (by decide +kernel) rfl
theorem ml_X8_isRow : ML yX8_isRow cX8_isRow 7 (some .boolean) 3 := ⟨wt_in (i := 1089) (by decide +kernel) rfl, wt_in (i := 132) (by decide +kernel) rfl, by decide +kernel, by decide +kernel, by decide +kernel⟩
theorem im_X8_isRow : Cond.instanceMethod yX8_isRow ∈ wt_ := wt_in (i := 1088) (by decide +kernel) rfl
theorem se_X8_isRow : Cond.selects yX8_isRow.cls yX8_isRow yX8_isRow ∈ wt_ := wt_in (i := 39) (by decide +kernel) rfl
theorem ml_X11_least : ML yX11_least cX11_least 2 (some .int) 1 := ⟨wt_in (i := 1094) (by decide +kernel) rfl, wt_in (i := 127) (by decide +kernel) rfl, by decide +kernel, by decide +kernel, by decide +kernel⟩
theorem im_X11_least : Cond.instanceMethod yX11_least ∈ wt_ := wt_in (i := 1092) (by decide +kernel) rfl
theorem se_X11_least : Cond.selects yX11_least.cls yX11_least yX11_least ∈ wt_ := wt_in (i := 1093) (by decide +kernel) rfl
theorem ml_X8_leastTurning : ML yX8_leastTurning cX8_leastTurning 3 (some .int) 0 := ⟨wt_in (i := 1098) (by decide +kernel) rfl, wt_in (i := 132) (by decide +kernel) rfl, by decide +kernel, by decide +kernel, by decide +kernel⟩
theorem im_X8_leastTurning : Cond.instanceMethod yX8_leastTurning ∈ wt_ := wt_in (i := 1096) (by decide +kernel) rfl
theorem se_X8_leastTurning : Cond.selects yX8_leastTurning.cls yX8_leastTurning yX8_leastTurning ∈ wt_ := wt_in (i := 1097) (by decide +kernel) rfl
theorem ml_X8_compareRows : ML yX8_compareRows cX8_compareRows 6 (some .int) 3 := ⟨wt_in (i := 1102) (by decide +kernel) rfl, wt_in (i := 132) (by decide +kernel) rfl, by decide +kernel, by decide +kernel, by decide +kernel⟩
theorem im_X8_compareRows : Cond.instanceMethod yX8_compareRows ∈ wt_ := wt_in (i := 1101) (by decide +kernel) rfl
theorem se_X8_compareRows : Cond.selects yX8_compareRows.cls yX8_compareRows yX8_compareRows ∈ wt_ := wt_in (i := 40) (by decide +kernel) rfl
theorem ml_J6_compare_7cf53 : ML yJ6_compare_7cf53 cJ6_compare_7cf53 2 (some .int) 2 := ⟨wt_in (i := 1105) (by decide +kernel) rfl, wt_in (i := 152) (by decide +kernel) rfl, by decide +kernel, by decide +kernel, by decide +kernel⟩
theorem sm_J6_compare_7cf53 : Cond.static yJ6_compare_7cf53 ∈ wt_ := wt_in (i := 1104) (by decide +kernel) rfl
theorem ml_X11_alike : ML yX11_alike cX11_alike 4 (some .int) 3 := ⟨wt_in (i := 1109) (by decide +kernel) rfl, wt_in (i := 127) (by decide +kernel) rfl, by decide +kernel, by decide +kernel, by decide +kernel⟩
theorem im_X11_alike : Cond.instanceMethod yX11_alike ∈ wt_ := wt_in (i := 1107) (by decide +kernel) rfl
theorem se_X11_alike : Cond.selects yX11_alike.cls yX11_alike yX11_alike ∈ wt_ := wt_in (i := 1108) (by decide +kernel) rfl
theorem ml_X8_turningTo : ML yX8_turningTo cX8_turningTo 4 (some .int) 2 := ⟨wt_in (i := 1113) (by decide +kernel) rfl, wt_in (i := 132) (by decide +kernel) rfl, by decide +kernel, by decide +kernel, by decide +kernel⟩
theorem im_X8_turningTo : Cond.instanceMethod yX8_turningTo ∈ wt_ := wt_in (i := 1111) (by decide +kernel) rfl
theorem se_X8_turningTo : Cond.selects yX8_turningTo.cls yX8_turningTo yX8_turningTo ∈ wt_ := wt_in (i := 1112) (by decide +kernel) rfl
theorem ml_X11_mirror : ML yX11_mirror cX11_mirror 2 (some .int) 1 := ⟨wt_in (i := 1117) (by decide +kernel) rfl, wt_in (i := 127) (by decide +kernel) rfl, by decide +kernel, by decide +kernel, by decide +kernel⟩
theorem im_X11_mirror : Cond.instanceMethod yX11_mirror ∈ wt_ := wt_in (i := 1115) (by decide +kernel) rfl
theorem se_X11_mirror : Cond.selects yX11_mirror.cls yX11_mirror yX11_mirror ∈ wt_ := wt_in (i := 1116) (by decide +kernel) rfl
theorem ml_X11_rows : ML yX11_rows cX11_rows 3 (some .int) 2 := ⟨wt_in (i := 1121) (by decide +kernel) rfl, wt_in (i := 127) (by decide +kernel) rfl, by decide +kernel, by decide +kernel, by decide +kernel⟩
theorem im_X11_rows : Cond.instanceMethod yX11_rows ∈ wt_ := wt_in (i := 1119) (by decide +kernel) rfl
theorem se_X11_rows : Cond.selects yX11_rows.cls yX11_rows yX11_rows ∈ wt_ := wt_in (i := 1120) (by decide +kernel) rfl
theorem ml_X8_unlikeRows : ML yX8_unlikeRows cX8_unlikeRows 6 (some .int) 1 := ⟨wt_in (i := 1125) (by decide +kernel) rfl, wt_in (i := 132) (by decide +kernel) rfl, by decide +kernel, by decide +kernel, by decide +kernel⟩
theorem im_X8_unlikeRows : Cond.instanceMethod yX8_unlikeRows ∈ wt_ := wt_in (i := 1123) (by decide +kernel) rfl
theorem se_X8_unlikeRows : Cond.selects yX8_unlikeRows.cls yX8_unlikeRows yX8_unlikeRows ∈ wt_ := wt_in (i := 1124) (by decide +kernel) rfl
theorem ml_X11_kinds : ML yX11_kinds cX11_kinds 7 (some .int) 3 := ⟨wt_in (i := 1129) (by decide +kernel) rfl, wt_in (i := 127) (by decide +kernel) rfl, by decide +kernel, by decide +kernel, by decide +kernel⟩
theorem im_X11_kinds : Cond.instanceMethod yX11_kinds ∈ wt_ := wt_in (i := 1127) (by decide +kernel) rfl
theorem se_X11_kinds : Cond.selects yX11_kinds.cls yX11_kinds yX11_kinds ∈ wt_ := wt_in (i := 1128) (by decide +kernel) rfl
theorem ml_X11_commonDivisor : ML yX11_commonDivisor cX11_commonDivisor 3 (some .int) 2 := ⟨wt_in (i := 1132) (by decide +kernel) rfl, wt_in (i := 127) (by decide +kernel) rfl, by decide +kernel, by decide +kernel, by decide +kernel⟩
theorem sm_X11_commonDivisor : Cond.static yX11_commonDivisor ∈ wt_ := wt_in (i := 1131) (by decide +kernel) rfl
theorem ml_X11_power : ML yX11_power cX11_power 5 (some .long) 2 := ⟨wt_in (i := 1135) (by decide +kernel) rfl, wt_in (i := 127) (by decide +kernel) rfl, by decide +kernel, by decide +kernel, by decide +kernel⟩
theorem sm_X11_power : Cond.static yX11_power ∈ wt_ := wt_in (i := 1134) (by decide +kernel) rfl
theorem ml_X11_pairsOver : ML yX11_pairsOver cX11_pairsOver 4 (some .int) 2 := ⟨wt_in (i := 1138) (by decide +kernel) rfl, wt_in (i := 127) (by decide +kernel) rfl, by decide +kernel, by decide +kernel, by decide +kernel⟩
theorem sm_X11_pairsOver : Cond.static yX11_pairsOver ∈ wt_ := wt_in (i := 1137) (by decide +kernel) rfl
theorem ml_X11_noted : ML yX11_noted cX11_noted 4 (some .int) 3 := ⟨wt_in (i := 1142) (by decide +kernel) rfl, wt_in (i := 127) (by decide +kernel) rfl, by decide +kernel, by decide +kernel, by decide +kernel⟩
theorem im_X11_noted : Cond.instanceMethod yX11_noted ∈ wt_ := wt_in (i := 1140) (by decide +kernel) rfl
theorem se_X11_noted : Cond.selects yX11_noted.cls yX11_noted yX11_noted ∈ wt_ := wt_in (i := 1141) (by decide +kernel) rfl
theorem ml_X4_add : ML yX4_add cX4_add 4 (some .int) 3 := ⟨wt_in (i := 1146) (by decide +kernel) rfl, wt_in (i := 136) (by decide +kernel) rfl, by decide +kernel, by decide +kernel, by decide +kernel⟩
theorem im_X4_add : Cond.instanceMethod yX4_add ∈ wt_ := wt_in (i := 1144) (by decide +kernel) rfl
theorem se_X4_add : Cond.selects yX4_add.cls yX4_add yX4_add ∈ wt_ := wt_in (i := 1145) (by decide +kernel) rfl
theorem ml_X11_fits : ML yX11_fits cX11_fits 2 (some .int) 1 := ⟨wt_in (i := 1150) (by decide +kernel) rfl, wt_in (i := 127) (by decide +kernel) rfl, by decide +kernel, by decide +kernel, by decide +kernel⟩
theorem im_X11_fits : Cond.instanceMethod yX11_fits ∈ wt_ := wt_in (i := 1148) (by decide +kernel) rfl
theorem se_X11_fits : Cond.selects yX11_fits.cls yX11_fits yX11_fits ∈ wt_ := wt_in (i := 1149) (by decide +kernel) rfl
theorem ml_X4_find : ML yX4_find cX4_find 5 none 1 := ⟨wt_in (i := 1154) (by decide +kernel) rfl, wt_in (i := 136) (by decide +kernel) rfl, by decide +kernel, by decide +kernel, by decide +kernel⟩
theorem im_X4_find : Cond.instanceMethod yX4_find ∈ wt_ := wt_in (i := 1152) (by decide +kernel) rfl
theorem se_X4_find : Cond.selects yX4_find.cls yX4_find yX4_find ∈ wt_ := wt_in (i := 1153) (by decide +kernel) rfl
theorem ml_X4_isSo : ML yX4_isSo cX4_isSo 6 (some .boolean) 3 := ⟨wt_in (i := 1159) (by decide +kernel) rfl, wt_in (i := 136) (by decide +kernel) rfl, by decide +kernel, by decide +kernel, by decide +kernel⟩
theorem im_X4_isSo : Cond.instanceMethod yX4_isSo ∈ wt_ := wt_in (i := 1158) (by decide +kernel) rfl
theorem se_X4_isSo : Cond.selects yX4_isSo.cls yX4_isSo yX4_isSo ∈ wt_ := wt_in (i := 41) (by decide +kernel) rfl
theorem ml_X4_foundAt : ML yX4_foundAt cX4_foundAt 2 (some .int) 1 := ⟨wt_in (i := 1164) (by decide +kernel) rfl, wt_in (i := 136) (by decide +kernel) rfl, by decide +kernel, by decide +kernel, by decide +kernel⟩
theorem im_X4_foundAt : Cond.instanceMethod yX4_foundAt ∈ wt_ := wt_in (i := 1162) (by decide +kernel) rfl
theorem se_X4_foundAt : Cond.selects yX4_foundAt.cls yX4_foundAt yX4_foundAt ∈ wt_ := wt_in (i := 1163) (by decide +kernel) rfl
theorem ml_X11_ask : ML yX11_ask cX11_ask 1 (some .int) 0 := ⟨wt_in (i := 1168) (by decide +kernel) rfl, wt_in (i := 127) (by decide +kernel) rfl, by decide +kernel, by decide +kernel, by decide +kernel⟩
theorem im_X11_ask : Cond.instanceMethod yX11_ask ∈ wt_ := wt_in (i := 1166) (by decide +kernel) rfl
theorem se_X11_ask : Cond.selects yX11_ask.cls yX11_ask yX11_ask ∈ wt_ := wt_in (i := 1167) (by decide +kernel) rfl
theorem ml_X4_bestTick : ML yX4_bestTick cX4_bestTick 6 (some .int) 1 := ⟨wt_in (i := 1172) (by decide +kernel) rfl, wt_in (i := 136) (by decide +kernel) rfl, by decide +kernel, by decide +kernel, by decide +kernel⟩
theorem im_X4_bestTick : Cond.instanceMethod yX4_bestTick ∈ wt_ := wt_in (i := 1170) (by decide +kernel) rfl
theorem se_X4_bestTick : Cond.selects yX4_bestTick.cls yX4_bestTick yX4_bestTick ∈ wt_ := wt_in (i := 1171) (by decide +kernel) rfl
theorem ml_X4_mostAlike : ML yX4_mostAlike cX4_mostAlike 9 (some .int) 2 := ⟨wt_in (i := 1176) (by decide +kernel) rfl, wt_in (i := 136) (by decide +kernel) rfl, by decide +kernel, by decide +kernel, by decide +kernel⟩
theorem im_X4_mostAlike : Cond.instanceMethod yX4_mostAlike ∈ wt_ := wt_in (i := 1175) (by decide +kernel) rfl
theorem se_X4_mostAlike : Cond.selects yX4_mostAlike.cls yX4_mostAlike yX4_mostAlike ∈ wt_ := wt_in (i := 42) (by decide +kernel) rfl
theorem ml_X11_game : ML yX11_game cX11_game 5 (some .int) 4 := ⟨wt_in (i := 1182) (by decide +kernel) rfl, wt_in (i := 127) (by decide +kernel) rfl, by decide +kernel, by decide +kernel, by decide +kernel⟩
theorem im_X11_game : Cond.instanceMethod yX11_game ∈ wt_ := wt_in (i := 1180) (by decide +kernel) rfl
theorem se_X11_game : Cond.selects yX11_game.cls yX11_game yX11_game ∈ wt_ := wt_in (i := 1181) (by decide +kernel) rfl
theorem ml_X11_lookerHas : ML yX11_lookerHas cX11_lookerHas 4 (some .int) 3 := ⟨wt_in (i := 1186) (by decide +kernel) rfl, wt_in (i := 127) (by decide +kernel) rfl, by decide +kernel, by decide +kernel, by decide +kernel⟩
theorem im_X11_lookerHas : Cond.instanceMethod yX11_lookerHas ∈ wt_ := wt_in (i := 1185) (by decide +kernel) rfl
theorem se_X11_lookerHas : Cond.selects yX11_lookerHas.cls yX11_lookerHas yX11_lookerHas ∈ wt_ := wt_in (i := 43) (by decide +kernel) rfl
theorem ml_X11_unlikeSeen : ML yX11_unlikeSeen cX11_unlikeSeen 6 (some .int) 2 := ⟨wt_in (i := 1190) (by decide +kernel) rfl, wt_in (i := 127) (by decide +kernel) rfl, by decide +kernel, by decide +kernel, by decide +kernel⟩
theorem im_X11_unlikeSeen : Cond.instanceMethod yX11_unlikeSeen ∈ wt_ := wt_in (i := 1189) (by decide +kernel) rfl
theorem se_X11_unlikeSeen : Cond.selects yX11_unlikeSeen.cls yX11_unlikeSeen yX11_unlikeSeen ∈ wt_ := wt_in (i := 44) (by decide +kernel) rfl
theorem ml_X11_withoutBlank : ML yX11_withoutBlank cX11_withoutBlank 1 (some .int) 1 := ⟨wt_in (i := 1193) (by decide +kernel) rfl, wt_in (i := 127) (by decide +kernel) rfl, by decide +kernel, by decide +kernel, by decide +kernel⟩
theorem sm_X11_withoutBlank : Cond.static yX11_withoutBlank ∈ wt_ := wt_in (i := 1192) (by decide +kernel) rfl
theorem ml_J6_bitCount_0f7a4 : ML yJ6_bitCount_0f7a4 cJ6_bitCount_0f7a4 1 (some .int) 1 := ⟨wt_in (i := 1197) (by decide +kernel) rfl, wt_in (i := 152) (by decide +kernel) rfl, by decide +kernel, by decide +kernel, by decide +kernel⟩
theorem sm_J6_bitCount_0f7a4 : Cond.static yJ6_bitCount_0f7a4 ∈ wt_ := wt_in (i := 1196) (by decide +kernel) rfl
theorem ml_X11_turnerHas : ML yX11_turnerHas cX11_turnerHas 4 (some .int) 3 := ⟨wt_in (i := 1204) (by decide +kernel) rfl, wt_in (i := 127) (by decide +kernel) rfl, by decide +kernel, by decide +kernel, by decide +kernel⟩
theorem im_X11_turnerHas : Cond.instanceMethod yX11_turnerHas ∈ wt_ := wt_in (i := 1203) (by decide +kernel) rfl
theorem se_X11_turnerHas : Cond.selects yX11_turnerHas.cls yX11_turnerHas yX11_turnerHas ∈ wt_ := wt_in (i := 45) (by decide +kernel) rfl
theorem ml_X11_rests : ML yX11_rests cX11_rests 6 (some .int) 2 := ⟨wt_in (i := 1208) (by decide +kernel) rfl, wt_in (i := 127) (by decide +kernel) rfl, by decide +kernel, by decide +kernel, by decide +kernel⟩
theorem im_X11_rests : Cond.instanceMethod yX11_rests ∈ wt_ := wt_in (i := 1206) (by decide +kernel) rfl
theorem se_X11_rests : Cond.selects yX11_rests.cls yX11_rests yX11_rests ∈ wt_ := wt_in (i := 1207) (by decide +kernel) rfl
theorem ml_X11_isRest : ML yX11_isRest cX11_isRest 8 (some .boolean) 3 := ⟨wt_in (i := 1212) (by decide +kernel) rfl, wt_in (i := 127) (by decide +kernel) rfl, by decide +kernel, by decide +kernel, by decide +kernel⟩
theorem im_X11_isRest : Cond.instanceMethod yX11_isRest ∈ wt_ := wt_in (i := 1211) (by decide +kernel) rfl
theorem se_X11_isRest : Cond.selects yX11_isRest.cls yX11_isRest yX11_isRest ∈ wt_ := wt_in (i := 46) (by decide +kernel) rfl
theorem ml_X11_odds : ML yX11_odds cX11_odds 5 (some .int) 4 := ⟨wt_in (i := 1216) (by decide +kernel) rfl, wt_in (i := 127) (by decide +kernel) rfl, by decide +kernel, by decide +kernel, by decide +kernel⟩
theorem im_X11_odds : Cond.instanceMethod yX11_odds ∈ wt_ := wt_in (i := 1214) (by decide +kernel) rfl
theorem se_X11_odds : Cond.selects yX11_odds.cls yX11_odds yX11_odds ∈ wt_ := wt_in (i := 1215) (by decide +kernel) rfl
theorem ml_X0_partsShowing : ML yX0_partsShowing cX0_partsShowing 4 (some .int) 3 := ⟨wt_in (i := 1220) (by decide +kernel) rfl, wt_in (i := 137) (by decide +kernel) rfl, by decide +kernel, by decide +kernel, by decide +kernel⟩
theorem im_X0_partsShowing : Cond.instanceMethod yX0_partsShowing ∈ wt_ := wt_in (i := 1218) (by decide +kernel) rfl
theorem se_X0_partsShowing : Cond.selects yX0_partsShowing.cls yX0_partsShowing yX0_partsShowing ∈ wt_ := wt_in (i := 1219) (by decide +kernel) rfl
theorem ml_X0_showingOf : ML yX0_showingOf cX0_showingOf 11 (some .long) 6 := ⟨wt_in (i := 1226) (by decide +kernel) rfl, wt_in (i := 137) (by decide +kernel) rfl, by decide +kernel, by decide +kernel, by decide +kernel⟩
theorem im_X0_showingOf : Cond.instanceMethod yX0_showingOf ∈ wt_ := wt_in (i := 1225) (by decide +kernel) rfl
theorem se_X0_showingOf : Cond.selects yX0_showingOf.cls yX0_showingOf yX0_showingOf ∈ wt_ := wt_in (i := 47) (by decide +kernel) rfl
theorem ml_X11_shares : ML yX11_shares cX11_shares 5 (some .int) 2 := ⟨wt_in (i := 1231) (by decide +kernel) rfl, wt_in (i := 127) (by decide +kernel) rfl, by decide +kernel, by decide +kernel, by decide +kernel⟩
theorem im_X11_shares : Cond.instanceMethod yX11_shares ∈ wt_ := wt_in (i := 1229) (by decide +kernel) rfl
theorem se_X11_shares : Cond.selects yX11_shares.cls yX11_shares yX11_shares ∈ wt_ := wt_in (i := 1230) (by decide +kernel) rfl
theorem ml_X11_most : ML yX11_most cX11_most 2 (some .int) 1 := ⟨wt_in (i := 1235) (by decide +kernel) rfl, wt_in (i := 127) (by decide +kernel) rfl, by decide +kernel, by decide +kernel, by decide +kernel⟩
theorem im_X11_most : Cond.instanceMethod yX11_most ∈ wt_ := wt_in (i := 1233) (by decide +kernel) rfl
theorem se_X11_most : Cond.selects yX11_most.cls yX11_most yX11_most ∈ wt_ := wt_in (i := 1234) (by decide +kernel) rfl
theorem ml_X11_fastest : ML yX11_fastest cX11_fastest 3 (some .int) 0 := ⟨wt_in (i := 1239) (by decide +kernel) rfl, wt_in (i := 127) (by decide +kernel) rfl, by decide +kernel, by decide +kernel, by decide +kernel⟩
theorem im_X11_fastest : Cond.instanceMethod yX11_fastest ∈ wt_ := wt_in (i := 1238) (by decide +kernel) rfl
theorem se_X11_fastest : Cond.selects yX11_fastest.cls yX11_fastest yX11_fastest ∈ wt_ := wt_in (i := 48) (by decide +kernel) rfl
theorem ml_X11_longest : ML yX11_longest cX11_longest 3 (some .int) 0 := ⟨wt_in (i := 1243) (by decide +kernel) rfl, wt_in (i := 127) (by decide +kernel) rfl, by decide +kernel, by decide +kernel, by decide +kernel⟩
theorem im_X11_longest : Cond.instanceMethod yX11_longest ∈ wt_ := wt_in (i := 1242) (by decide +kernel) rfl
theorem se_X11_longest : Cond.selects yX11_longest.cls yX11_longest yX11_longest ∈ wt_ := wt_in (i := 49) (by decide +kernel) rfl
theorem ml_X11_commonest : ML yX11_commonest cX11_commonest 6 (some .int) 0 := ⟨wt_in (i := 1247) (by decide +kernel) rfl, wt_in (i := 127) (by decide +kernel) rfl, by decide +kernel, by decide +kernel, by decide +kernel⟩
theorem im_X11_commonest : Cond.instanceMethod yX11_commonest ∈ wt_ := wt_in (i := 1246) (by decide +kernel) rfl
theorem se_X11_commonest : Cond.selects yX11_commonest.cls yX11_commonest yX11_commonest ∈ wt_ := wt_in (i := 50) (by decide +kernel) rfl
theorem ml_X8_has : ML yX8_has cX8_has 7 (some .boolean) 1 := ⟨wt_in (i := 1251) (by decide +kernel) rfl, wt_in (i := 132) (by decide +kernel) rfl, by decide +kernel, by decide +kernel, by decide +kernel⟩
theorem im_X8_has : Cond.instanceMethod yX8_has ∈ wt_ := wt_in (i := 1249) (by decide +kernel) rfl
theorem se_X8_has : Cond.selects yX8_has.cls yX8_has yX8_has ∈ wt_ := wt_in (i := 1250) (by decide +kernel) rfl
theorem ml_X11_shownNow : ML yX11_shownNow cX11_shownNow 3 (some .int) 0 := ⟨wt_in (i := 1255) (by decide +kernel) rfl, wt_in (i := 127) (by decide +kernel) rfl, by decide +kernel, by decide +kernel, by decide +kernel⟩
theorem im_X11_shownNow : Cond.instanceMethod yX11_shownNow ∈ wt_ := wt_in (i := 1254) (by decide +kernel) rfl
theorem se_X11_shownNow : Cond.selects yX11_shownNow.cls yX11_shownNow yX11_shownNow ∈ wt_ := wt_in (i := 51) (by decide +kernel) rfl
theorem ml_X11_twins : ML yX11_twins cX11_twins 5 (some .int) 0 := ⟨wt_in (i := 1259) (by decide +kernel) rfl, wt_in (i := 127) (by decide +kernel) rfl, by decide +kernel, by decide +kernel, by decide +kernel⟩
theorem im_X11_twins : Cond.instanceMethod yX11_twins ∈ wt_ := wt_in (i := 1258) (by decide +kernel) rfl
theorem se_X11_twins : Cond.selects yX11_twins.cls yX11_twins yX11_twins ∈ wt_ := wt_in (i := 52) (by decide +kernel) rfl
theorem ml_X11_turningBack : ML yX11_turningBack cX11_turningBack 3 (some .int) 0 := ⟨wt_in (i := 1263) (by decide +kernel) rfl, wt_in (i := 127) (by decide +kernel) rfl, by decide +kernel, by decide +kernel, by decide +kernel⟩
theorem im_X11_turningBack : Cond.instanceMethod yX11_turningBack ∈ wt_ := wt_in (i := 1262) (by decide +kernel) rfl
theorem se_X11_turningBack : Cond.selects yX11_turningBack.cls yX11_turningBack yX11_turningBack ∈ wt_ := wt_in (i := 53) (by decide +kernel) rfl
theorem ml_X11_bareNow : ML yX11_bareNow cX11_bareNow 3 (some .int) 0 := ⟨wt_in (i := 1267) (by decide +kernel) rfl, wt_in (i := 127) (by decide +kernel) rfl, by decide +kernel, by decide +kernel, by decide +kernel⟩
theorem im_X11_bareNow : Cond.instanceMethod yX11_bareNow ∈ wt_ := wt_in (i := 1266) (by decide +kernel) rfl
theorem se_X11_bareNow : Cond.selects yX11_bareNow.cls yX11_bareNow yX11_bareNow ∈ wt_ := wt_in (i := 54) (by decide +kernel) rfl
theorem ml_X11_still : ML yX11_still cX11_still 3 (some .int) 0 := ⟨wt_in (i := 1271) (by decide +kernel) rfl, wt_in (i := 127) (by decide +kernel) rfl, by decide +kernel, by decide +kernel, by decide +kernel⟩
theorem im_X11_still : Cond.instanceMethod yX11_still ∈ wt_ := wt_in (i := 1270) (by decide +kernel) rfl
theorem se_X11_still : Cond.selects yX11_still.cls yX11_still yX11_still ∈ wt_ := wt_in (i := 55) (by decide +kernel) rfl
theorem ml_X11_byPlace : ML yX11_byPlace cX11_byPlace 7 (some .int) 0 := ⟨wt_in (i := 1275) (by decide +kernel) rfl, wt_in (i := 127) (by decide +kernel) rfl, by decide +kernel, by decide +kernel, by decide +kernel⟩
theorem im_X11_byPlace : Cond.instanceMethod yX11_byPlace ∈ wt_ := wt_in (i := 1274) (by decide +kernel) rfl
theorem se_X11_byPlace : Cond.selects yX11_byPlace.cls yX11_byPlace yX11_byPlace ∈ wt_ := wt_in (i := 56) (by decide +kernel) rfl
theorem ml_X11_image : ML yX11_image cX11_image 1 (some .int) 0 := ⟨wt_in (i := 1279) (by decide +kernel) rfl, wt_in (i := 127) (by decide +kernel) rfl, by decide +kernel, by decide +kernel, by decide +kernel⟩
theorem im_X11_image : Cond.instanceMethod yX11_image ∈ wt_ := wt_in (i := 1277) (by decide +kernel) rfl
theorem se_X11_image : Cond.selects yX11_image.cls yX11_image yX11_image ∈ wt_ := wt_in (i := 1278) (by decide +kernel) rfl
theorem ml_X11_back : ML yX11_back cX11_back 1 (some .int) 0 := ⟨wt_in (i := 1284) (by decide +kernel) rfl, wt_in (i := 127) (by decide +kernel) rfl, by decide +kernel, by decide +kernel, by decide +kernel⟩
theorem im_X11_back : Cond.instanceMethod yX11_back ∈ wt_ := wt_in (i := 1282) (by decide +kernel) rfl
theorem se_X11_back : Cond.selects yX11_back.cls yX11_back yX11_back ∈ wt_ := wt_in (i := 1283) (by decide +kernel) rfl
theorem ml_X11_count : ML yX11_count cX11_count 2 (some .int) 1 := ⟨wt_in (i := 1288) (by decide +kernel) rfl, wt_in (i := 127) (by decide +kernel) rfl, by decide +kernel, by decide +kernel, by decide +kernel⟩
theorem im_X11_count : Cond.instanceMethod yX11_count ∈ wt_ := wt_in (i := 1286) (by decide +kernel) rfl
theorem se_X11_count : Cond.selects yX11_count.cls yX11_count yX11_count ∈ wt_ := wt_in (i := 1287) (by decide +kernel) rfl
theorem ml_X11_wheel : ML yX11_wheel cX11_wheel 4 (some .int) 2 := ⟨wt_in (i := 1296) (by decide +kernel) rfl, wt_in (i := 127) (by decide +kernel) rfl, by decide +kernel, by decide +kernel, by decide +kernel⟩
theorem im_X11_wheel : Cond.instanceMethod yX11_wheel ∈ wt_ := wt_in (i := 1294) (by decide +kernel) rfl
theorem se_X11_wheel : Cond.selects yX11_wheel.cls yX11_wheel yX11_wheel ∈ wt_ := wt_in (i := 1295) (by decide +kernel) rfl
theorem ml_X12_init : ML yX12_init cX12_init 1 none 0 := ⟨wt_in (i := 1367) (by decide +kernel) rfl, wt_in (i := 138) (by decide +kernel) rfl, by decide +kernel, by decide +kernel, by decide +kernel⟩
theorem im_X12_init : Cond.instanceMethod yX12_init ∈ wt_ := wt_in (i := 1366) (by decide +kernel) rfl
theorem ml_X12_thrown : ML yX12_thrown cX12_thrown 1 (some .int) 0 := ⟨wt_in (i := 1496) (by decide +kernel) rfl, wt_in (i := 138) (by decide +kernel) rfl, by decide +kernel, by decide +kernel, by decide +kernel⟩
theorem im_X12_thrown : Cond.instanceMethod yX12_thrown ∈ wt_ := wt_in (i := 1494) (by decide +kernel) rfl
theorem se_X12_thrown : Cond.selects yX12_thrown.cls yX12_thrown yX12_thrown ∈ wt_ := wt_in (i := 1495) (by decide +kernel) rfl
theorem ml_X12_feed : ML yX12_feed cX12_feed 9 (some .int) 5 := ⟨wt_in (i := 1500) (by decide +kernel) rfl, wt_in (i := 138) (by decide +kernel) rfl, by decide +kernel, by decide +kernel, by decide +kernel⟩
theorem im_X12_feed : Cond.instanceMethod yX12_feed ∈ wt_ := wt_in (i := 1498) (by decide +kernel) rfl
theorem se_X12_feed : Cond.selects yX12_feed.cls yX12_feed yX12_feed ∈ wt_ := wt_in (i := 1499) (by decide +kernel) rfl
theorem ml_X12_byteOf : ML yX12_byteOf cX12_byteOf 7 (some .int) 6 := ⟨wt_in (i := 1503) (by decide +kernel) rfl, wt_in (i := 138) (by decide +kernel) rfl, by decide +kernel, by decide +kernel, by decide +kernel⟩
theorem sm_X12_byteOf : Cond.static yX12_byteOf ∈ wt_ := wt_in (i := 1502) (by decide +kernel) rfl
theorem ml_X12_end : ML yX12_end cX12_end 2 (some .boolean) 1 := ⟨wt_in (i := 1507) (by decide +kernel) rfl, wt_in (i := 138) (by decide +kernel) rfl, by decide +kernel, by decide +kernel, by decide +kernel⟩
theorem im_X12_end : Cond.instanceMethod yX12_end ∈ wt_ := wt_in (i := 1505) (by decide +kernel) rfl
theorem se_X12_end : Cond.selects yX12_end.cls yX12_end yX12_end ∈ wt_ := wt_in (i := 1506) (by decide +kernel) rfl
theorem ml_X12_fault : ML yX12_fault cX12_fault 2 (some .int) 1 := ⟨wt_in (i := 1511) (by decide +kernel) rfl, wt_in (i := 138) (by decide +kernel) rfl, by decide +kernel, by decide +kernel, by decide +kernel⟩
theorem im_X12_fault : Cond.instanceMethod yX12_fault ∈ wt_ := wt_in (i := 1509) (by decide +kernel) rfl
theorem se_X12_fault : Cond.selects yX12_fault.cls yX12_fault yX12_fault ∈ wt_ := wt_in (i := 1510) (by decide +kernel) rfl
theorem ml_X12_readLantern : ML yX12_readLantern cX12_readLantern 4 (some .int) 0 := ⟨wt_in (i := 1515) (by decide +kernel) rfl, wt_in (i := 138) (by decide +kernel) rfl, by decide +kernel, by decide +kernel, by decide +kernel⟩
theorem im_X12_readLantern : Cond.instanceMethod yX12_readLantern ∈ wt_ := wt_in (i := 1514) (by decide +kernel) rfl
theorem se_X12_readLantern : Cond.selects yX12_readLantern.cls yX12_readLantern yX12_readLantern ∈ wt_ := wt_in (i := 58) (by decide +kernel) rfl
theorem ml_X12_usual : ML yX12_usual cX12_usual 2 (some .int) 2 := ⟨wt_in (i := 1518) (by decide +kernel) rfl, wt_in (i := 138) (by decide +kernel) rfl, by decide +kernel, by decide +kernel, by decide +kernel⟩
theorem sm_X12_usual : Cond.static yX12_usual ∈ wt_ := wt_in (i := 1517) (by decide +kernel) rfl
theorem ml_X12_look : ML yX12_look cX12_look 1 (some .int) 0 := ⟨wt_in (i := 1522) (by decide +kernel) rfl, wt_in (i := 138) (by decide +kernel) rfl, by decide +kernel, by decide +kernel, by decide +kernel⟩
theorem im_X12_look : Cond.instanceMethod yX12_look ∈ wt_ := wt_in (i := 1521) (by decide +kernel) rfl
theorem se_X12_look : Cond.selects yX12_look.cls yX12_look yX12_look ∈ wt_ := wt_in (i := 59) (by decide +kernel) rfl
theorem ml_X12_here : ML yX12_here cX12_here 1 (some .int) 0 := ⟨wt_in (i := 1526) (by decide +kernel) rfl, wt_in (i := 138) (by decide +kernel) rfl, by decide +kernel, by decide +kernel, by decide +kernel⟩
theorem im_X12_here : Cond.instanceMethod yX12_here ∈ wt_ := wt_in (i := 1525) (by decide +kernel) rfl
theorem se_X12_here : Cond.selects yX12_here.cls yX12_here yX12_here ∈ wt_ := wt_in (i := 60) (by decide +kernel) rfl
theorem ml_X12_items : ML yX12_items cX12_items 7 none 4 := ⟨wt_in (i := 1530) (by decide +kernel) rfl, wt_in (i := 138) (by decide +kernel) rfl, by decide +kernel, by decide +kernel, by decide +kernel⟩
theorem im_X12_items : Cond.instanceMethod yX12_items ∈ wt_ := wt_in (i := 1529) (by decide +kernel) rfl
theorem se_X12_items : Cond.selects yX12_items.cls yX12_items yX12_items ∈ wt_ := wt_in (i := 61) (by decide +kernel) rfl
theorem ml_X12_itemOf : ML yX12_itemOf cX12_itemOf 2 (some .int) 2 := ⟨wt_in (i := 1533) (by decide +kernel) rfl, wt_in (i := 138) (by decide +kernel) rfl, by decide +kernel, by decide +kernel, by decide +kernel⟩
theorem sm_X12_itemOf : Cond.static yX12_itemOf ∈ wt_ := wt_in (i := 1532) (by decide +kernel) rfl
theorem ml_X12_has : ML yX12_has cX12_has 2 (some .boolean) 2 := ⟨wt_in (i := 1536) (by decide +kernel) rfl, wt_in (i := 138) (by decide +kernel) rfl, by decide +kernel, by decide +kernel, by decide +kernel⟩
theorem sm_X12_has : Cond.static yX12_has ∈ wt_ := wt_in (i := 1535) (by decide +kernel) rfl
theorem ml_X12_highest : ML yX12_highest cX12_highest 2 (some .int) 2 := ⟨wt_in (i := 1539) (by decide +kernel) rfl, wt_in (i := 138) (by decide +kernel) rfl, by decide +kernel, by decide +kernel, by decide +kernel⟩
theorem sm_X12_highest : Cond.static yX12_highest ∈ wt_ := wt_in (i := 1538) (by decide +kernel) rfl
theorem ml_X12_number : ML yX12_number cX12_number 4 (some .int) 2 := ⟨wt_in (i := 1543) (by decide +kernel) rfl, wt_in (i := 138) (by decide +kernel) rfl, by decide +kernel, by decide +kernel, by decide +kernel⟩
theorem im_X12_number : Cond.instanceMethod yX12_number ∈ wt_ := wt_in (i := 1542) (by decide +kernel) rfl
theorem se_X12_number : Cond.selects yX12_number.cls yX12_number yX12_number ∈ wt_ := wt_in (i := 62) (by decide +kernel) rfl
theorem ml_X12_isDigit : ML yX12_isDigit cX12_isDigit 1 (some .boolean) 1 := ⟨wt_in (i := 1546) (by decide +kernel) rfl, wt_in (i := 138) (by decide +kernel) rfl, by decide +kernel, by decide +kernel, by decide +kernel⟩
theorem sm_X12_isDigit : Cond.static yX12_isDigit ∈ wt_ := wt_in (i := 1545) (by decide +kernel) rfl
theorem ml_X12_bad : ML yX12_bad cX12_bad 1 none 0 := ⟨wt_in (i := 1550) (by decide +kernel) rfl, wt_in (i := 138) (by decide +kernel) rfl, by decide +kernel, by decide +kernel, by decide +kernel⟩
theorem im_X12_bad : Cond.instanceMethod yX12_bad ∈ wt_ := wt_in (i := 1549) (by decide +kernel) rfl
theorem se_X12_bad : Cond.selects yX12_bad.cls yX12_bad yX12_bad ∈ wt_ := wt_in (i := 63) (by decide +kernel) rfl
theorem ml_X12_in : ML yX12_in cX12_in 3 (some .boolean) 3 := ⟨wt_in (i := 1553) (by decide +kernel) rfl, wt_in (i := 138) (by decide +kernel) rfl, by decide +kernel, by decide +kernel, by decide +kernel⟩
theorem sm_X12_in : Cond.static yX12_in ∈ wt_ := wt_in (i := 1552) (by decide +kernel) rfl
theorem ml_X12_readLaw : ML yX12_readLaw cX12_readLaw 2 (some .int) 1 := ⟨wt_in (i := 1557) (by decide +kernel) rfl, wt_in (i := 138) (by decide +kernel) rfl, by decide +kernel, by decide +kernel, by decide +kernel⟩
theorem im_X12_readLaw : Cond.instanceMethod yX12_readLaw ∈ wt_ := wt_in (i := 1556) (by decide +kernel) rfl
theorem se_X12_readLaw : Cond.selects yX12_readLaw.cls yX12_readLaw yX12_readLaw ∈ wt_ := wt_in (i := 64) (by decide +kernel) rfl
theorem ml_X12_open : ML yX12_open cX12_open 2 none 1 := ⟨wt_in (i := 1561) (by decide +kernel) rfl, wt_in (i := 138) (by decide +kernel) rfl, by decide +kernel, by decide +kernel, by decide +kernel⟩
theorem im_X12_open : Cond.instanceMethod yX12_open ∈ wt_ := wt_in (i := 1560) (by decide +kernel) rfl
theorem se_X12_open : Cond.selects yX12_open.cls yX12_open yX12_open ∈ wt_ := wt_in (i := 65) (by decide +kernel) rfl
theorem ml_X12_clause : ML yX12_clause cX12_clause 3 none 0 := ⟨wt_in (i := 1565) (by decide +kernel) rfl, wt_in (i := 138) (by decide +kernel) rfl, by decide +kernel, by decide +kernel, by decide +kernel⟩
theorem im_X12_clause : Cond.instanceMethod yX12_clause ∈ wt_ := wt_in (i := 1564) (by decide +kernel) rfl
theorem se_X12_clause : Cond.selects yX12_clause.cls yX12_clause yX12_clause ∈ wt_ := wt_in (i := 66) (by decide +kernel) rfl
theorem ml_X12_condition : ML yX12_condition cX12_condition 1 none 0 := ⟨wt_in (i := 1569) (by decide +kernel) rfl, wt_in (i := 138) (by decide +kernel) rfl, by decide +kernel, by decide +kernel, by decide +kernel⟩
theorem im_X12_condition : Cond.instanceMethod yX12_condition ∈ wt_ := wt_in (i := 1568) (by decide +kernel) rfl
theorem se_X12_condition : Cond.selects yX12_condition.cls yX12_condition yX12_condition ∈ wt_ := wt_in (i := 67) (by decide +kernel) rfl
theorem ml_X12_unit : ML yX12_unit cX12_unit 2 none 0 := ⟨wt_in (i := 1573) (by decide +kernel) rfl, wt_in (i := 138) (by decide +kernel) rfl, by decide +kernel, by decide +kernel, by decide +kernel⟩
theorem im_X12_unit : Cond.instanceMethod yX12_unit ∈ wt_ := wt_in (i := 1572) (by decide +kernel) rfl
theorem se_X12_unit : Cond.selects yX12_unit.cls yX12_unit yX12_unit ∈ wt_ := wt_in (i := 68) (by decide +kernel) rfl
theorem ml_X12_opens : ML yX12_opens cX12_opens 1 none 0 := ⟨wt_in (i := 1577) (by decide +kernel) rfl, wt_in (i := 138) (by decide +kernel) rfl, by decide +kernel, by decide +kernel, by decide +kernel⟩
theorem im_X12_opens : Cond.instanceMethod yX12_opens ∈ wt_ := wt_in (i := 1576) (by decide +kernel) rfl
theorem se_X12_opens : Cond.selects yX12_opens.cls yX12_opens yX12_opens ∈ wt_ := wt_in (i := 69) (by decide +kernel) rfl
theorem ml_X12_put : ML yX12_put cX12_put 3 none 2 := ⟨wt_in (i := 1581) (by decide +kernel) rfl, wt_in (i := 138) (by decide +kernel) rfl, by decide +kernel, by decide +kernel, by decide +kernel⟩
theorem im_X12_put : Cond.instanceMethod yX12_put ∈ wt_ := wt_in (i := 1580) (by decide +kernel) rfl
theorem se_X12_put : Cond.selects yX12_put.cls yX12_put yX12_put ∈ wt_ := wt_in (i := 70) (by decide +kernel) rfl
theorem ml_X12_closes : ML yX12_closes cX12_closes 2 none 1 := ⟨wt_in (i := 1585) (by decide +kernel) rfl, wt_in (i := 138) (by decide +kernel) rfl, by decide +kernel, by decide +kernel, by decide +kernel⟩
theorem im_X12_closes : Cond.instanceMethod yX12_closes ∈ wt_ := wt_in (i := 1584) (by decide +kernel) rfl
theorem se_X12_closes : Cond.selects yX12_closes.cls yX12_closes yX12_closes ∈ wt_ := wt_in (i := 71) (by decide +kernel) rfl
theorem ml_X12_sum : ML yX12_sum cX12_sum 2 none 0 := ⟨wt_in (i := 1589) (by decide +kernel) rfl, wt_in (i := 138) (by decide +kernel) rfl, by decide +kernel, by decide +kernel, by decide +kernel⟩
theorem im_X12_sum : Cond.instanceMethod yX12_sum ∈ wt_ := wt_in (i := 1588) (by decide +kernel) rfl
theorem se_X12_sum : Cond.selects yX12_sum.cls yX12_sum yX12_sum ∈ wt_ := wt_in (i := 72) (by decide +kernel) rfl
theorem ml_X12_term : ML yX12_term cX12_term 2 none 0 := ⟨wt_in (i := 1593) (by decide +kernel) rfl, wt_in (i := 138) (by decide +kernel) rfl, by decide +kernel, by decide +kernel, by decide +kernel⟩
theorem im_X12_term : Cond.instanceMethod yX12_term ∈ wt_ := wt_in (i := 1592) (by decide +kernel) rfl
theorem se_X12_term : Cond.selects yX12_term.cls yX12_term yX12_term ∈ wt_ := wt_in (i := 73) (by decide +kernel) rfl
theorem ml_X12_atom : ML yX12_atom cX12_atom 2 none 0 := ⟨wt_in (i := 1597) (by decide +kernel) rfl, wt_in (i := 138) (by decide +kernel) rfl, by decide +kernel, by decide +kernel, by decide +kernel⟩
theorem im_X12_atom : Cond.instanceMethod yX12_atom ∈ wt_ := wt_in (i := 1596) (by decide +kernel) rfl
theorem se_X12_atom : Cond.selects yX12_atom.cls yX12_atom yX12_atom ∈ wt_ := wt_in (i := 74) (by decide +kernel) rfl
theorem ml_X12_plainNumber : ML yX12_plainNumber cX12_plainNumber 3 (some .int) 0 := ⟨wt_in (i := 1601) (by decide +kernel) rfl, wt_in (i := 138) (by decide +kernel) rfl, by decide +kernel, by decide +kernel, by decide +kernel⟩
theorem im_X12_plainNumber : Cond.instanceMethod yX12_plainNumber ∈ wt_ := wt_in (i := 1600) (by decide +kernel) rfl
theorem se_X12_plainNumber : Cond.selects yX12_plainNumber.cls yX12_plainNumber yX12_plainNumber ∈ wt_ := wt_in (i := 75) (by decide +kernel) rfl
theorem ml_X12_letterOf : ML yX12_letterOf cX12_letterOf 1 (some .int) 1 := ⟨wt_in (i := 1604) (by decide +kernel) rfl, wt_in (i := 138) (by decide +kernel) rfl, by decide +kernel, by decide +kernel, by decide +kernel⟩
theorem sm_X12_letterOf : Cond.static yX12_letterOf ∈ wt_ := wt_in (i := 1603) (by decide +kernel) rfl
theorem ml_X12_compare : ML yX12_compare cX12_compare 2 none 0 := ⟨wt_in (i := 1608) (by decide +kernel) rfl, wt_in (i := 138) (by decide +kernel) rfl, by decide +kernel, by decide +kernel, by decide +kernel⟩
theorem im_X12_compare : Cond.instanceMethod yX12_compare ∈ wt_ := wt_in (i := 1607) (by decide +kernel) rfl
theorem se_X12_compare : Cond.selects yX12_compare.cls yX12_compare yX12_compare ∈ wt_ := wt_in (i := 76) (by decide +kernel) rfl
theorem ml_X12_isSign : ML yX12_isSign cX12_isSign 1 (some .boolean) 1 := ⟨wt_in (i := 1611) (by decide +kernel) rfl, wt_in (i := 138) (by decide +kernel) rfl, by decide +kernel, by decide +kernel, by decide +kernel⟩
theorem sm_X12_isSign : Cond.static yX12_isSign ∈ wt_ := wt_in (i := 1610) (by decide +kernel) rfl
theorem ml_X12_goOnAnd : ML yX12_goOnAnd cX12_goOnAnd 1 none 0 := ⟨wt_in (i := 1615) (by decide +kernel) rfl, wt_in (i := 138) (by decide +kernel) rfl, by decide +kernel, by decide +kernel, by decide +kernel⟩
theorem im_X12_goOnAnd : Cond.instanceMethod yX12_goOnAnd ∈ wt_ := wt_in (i := 1614) (by decide +kernel) rfl
theorem se_X12_goOnAnd : Cond.selects yX12_goOnAnd.cls yX12_goOnAnd yX12_goOnAnd ∈ wt_ := wt_in (i := 77) (by decide +kernel) rfl
theorem ml_X12_goOnOr : ML yX12_goOnOr cX12_goOnOr 1 none 0 := ⟨wt_in (i := 1619) (by decide +kernel) rfl, wt_in (i := 138) (by decide +kernel) rfl, by decide +kernel, by decide +kernel, by decide +kernel⟩
theorem im_X12_goOnOr : Cond.instanceMethod yX12_goOnOr ∈ wt_ := wt_in (i := 1618) (by decide +kernel) rfl
theorem se_X12_goOnOr : Cond.selects yX12_goOnOr.cls yX12_goOnOr yX12_goOnOr ∈ wt_ := wt_in (i := 78) (by decide +kernel) rfl
theorem ml_X12_atEnd : ML yX12_atEnd cX12_atEnd 1 (some .int) 0 := ⟨wt_in (i := 1623) (by decide +kernel) rfl, wt_in (i := 138) (by decide +kernel) rfl, by decide +kernel, by decide +kernel, by decide +kernel⟩
theorem im_X12_atEnd : Cond.instanceMethod yX12_atEnd ∈ wt_ := wt_in (i := 1622) (by decide +kernel) rfl
theorem se_X12_atEnd : Cond.selects yX12_atEnd.cls yX12_atEnd yX12_atEnd ∈ wt_ := wt_in (i := 79) (by decide +kernel) rfl
theorem ml_X12_readStrip : ML yX12_readStrip cX12_readStrip 3 (some .int) 1 := ⟨wt_in (i := 1627) (by decide +kernel) rfl, wt_in (i := 138) (by decide +kernel) rfl, by decide +kernel, by decide +kernel, by decide +kernel⟩
theorem im_X12_readStrip : Cond.instanceMethod yX12_readStrip ∈ wt_ := wt_in (i := 1626) (by decide +kernel) rfl
theorem se_X12_readStrip : Cond.selects yX12_readStrip.cls yX12_readStrip yX12_readStrip ∈ wt_ := wt_in (i := 80) (by decide +kernel) rfl
theorem ml_X12_readPicture : ML yX12_readPicture cX12_readPicture 5 none 2 := ⟨wt_in (i := 1631) (by decide +kernel) rfl, wt_in (i := 138) (by decide +kernel) rfl, by decide +kernel, by decide +kernel, by decide +kernel⟩
theorem im_X12_readPicture : Cond.instanceMethod yX12_readPicture ∈ wt_ := wt_in (i := 1630) (by decide +kernel) rfl
theorem se_X12_readPicture : Cond.selects yX12_readPicture.cls yX12_readPicture yX12_readPicture ∈ wt_ := wt_in (i := 81) (by decide +kernel) rfl
theorem ml_X12_isPicture : ML yX12_isPicture cX12_isPicture 1 (some .boolean) 1 := ⟨wt_in (i := 1634) (by decide +kernel) rfl, wt_in (i := 138) (by decide +kernel) rfl, by decide +kernel, by decide +kernel, by decide +kernel⟩
theorem sm_X12_isPicture : Cond.static yX12_isPicture ∈ wt_ := wt_in (i := 1633) (by decide +kernel) rfl
theorem ml_X12_text : ML yX12_text cX12_text 2 (some .int) 1 := ⟨wt_in (i := 1638) (by decide +kernel) rfl, wt_in (i := 138) (by decide +kernel) rfl, by decide +kernel, by decide +kernel, by decide +kernel⟩
theorem im_X12_text : Cond.instanceMethod yX12_text ∈ wt_ := wt_in (i := 1636) (by decide +kernel) rfl
theorem se_X12_text : Cond.selects yX12_text.cls yX12_text yX12_text ∈ wt_ := wt_in (i := 1637) (by decide +kernel) rfl
theorem ml_X12_takeLantern : ML yX12_takeLantern cX12_takeLantern 2 (some .int) 0 := ⟨wt_in (i := 1642) (by decide +kernel) rfl, wt_in (i := 138) (by decide +kernel) rfl, by decide +kernel, by decide +kernel, by decide +kernel⟩
theorem im_X12_takeLantern : Cond.instanceMethod yX12_takeLantern ∈ wt_ := wt_in (i := 1641) (by decide +kernel) rfl
theorem se_X12_takeLantern : Cond.selects yX12_takeLantern.cls yX12_takeLantern yX12_takeLantern ∈ wt_ := wt_in (i := 82) (by decide +kernel) rfl
theorem ml_X12_of : ML yX12_of cX12_of 3 (some .int) 2 := ⟨wt_in (i := 1646) (by decide +kernel) rfl, wt_in (i := 138) (by decide +kernel) rfl, by decide +kernel, by decide +kernel, by decide +kernel⟩
theorem im_X12_of : Cond.instanceMethod yX12_of ∈ wt_ := wt_in (i := 1645) (by decide +kernel) rfl
theorem se_X12_of : Cond.selects yX12_of.cls yX12_of yX12_of ∈ wt_ := wt_in (i := 83) (by decide +kernel) rfl
theorem ml_X12_longOf : ML yX12_longOf cX12_longOf 2 (some .int) 1 := ⟨wt_in (i := 1650) (by decide +kernel) rfl, wt_in (i := 138) (by decide +kernel) rfl, by decide +kernel, by decide +kernel, by decide +kernel⟩
theorem im_X12_longOf : Cond.instanceMethod yX12_longOf ∈ wt_ := wt_in (i := 1649) (by decide +kernel) rfl
theorem se_X12_longOf : Cond.selects yX12_longOf.cls yX12_longOf yX12_longOf ∈ wt_ := wt_in (i := 84) (by decide +kernel) rfl
theorem ml_X12_stripLongOf : ML yX12_stripLongOf cX12_stripLongOf 2 (some .int) 1 := ⟨wt_in (i := 1654) (by decide +kernel) rfl, wt_in (i := 138) (by decide +kernel) rfl, by decide +kernel, by decide +kernel, by decide +kernel⟩
theorem im_X12_stripLongOf : Cond.instanceMethod yX12_stripLongOf ∈ wt_ := wt_in (i := 1653) (by decide +kernel) rfl
theorem se_X12_stripLongOf : Cond.selects yX12_stripLongOf.cls yX12_stripLongOf yX12_stripLongOf ∈ wt_ := wt_in (i := 85) (by decide +kernel) rfl
theorem ml_X12_rule : ML yX12_rule cX12_rule 2 (some .int) 1 := ⟨wt_in (i := 1658) (by decide +kernel) rfl, wt_in (i := 138) (by decide +kernel) rfl, by decide +kernel, by decide +kernel, by decide +kernel⟩
theorem im_X12_rule : Cond.instanceMethod yX12_rule ∈ wt_ := wt_in (i := 1656) (by decide +kernel) rfl
theorem se_X12_rule : Cond.selects yX12_rule.cls yX12_rule yX12_rule ∈ wt_ := wt_in (i := 1657) (by decide +kernel) rfl
theorem ml_X12_wheel : ML yX12_wheel cX12_wheel 3 (some .int) 2 := ⟨wt_in (i := 1662) (by decide +kernel) rfl, wt_in (i := 138) (by decide +kernel) rfl, by decide +kernel, by decide +kernel, by decide +kernel⟩
theorem im_X12_wheel : Cond.instanceMethod yX12_wheel ∈ wt_ := wt_in (i := 1660) (by decide +kernel) rfl
theorem se_X12_wheel : Cond.selects yX12_wheel.cls yX12_wheel yX12_wheel ∈ wt_ := wt_in (i := 1661) (by decide +kernel) rfl
theorem ml_X12_isWheel : ML yX12_isWheel cX12_isWheel 2 (some .boolean) 1 := ⟨wt_in (i := 1666) (by decide +kernel) rfl, wt_in (i := 138) (by decide +kernel) rfl, by decide +kernel, by decide +kernel, by decide +kernel⟩
theorem im_X12_isWheel : Cond.instanceMethod yX12_isWheel ∈ wt_ := wt_in (i := 1665) (by decide +kernel) rfl
theorem se_X12_isWheel : Cond.selects yX12_isWheel.cls yX12_isWheel yX12_isWheel ∈ wt_ := wt_in (i := 86) (by decide +kernel) rfl
theorem ml_X12_showsOf : ML yX12_showsOf cX12_showsOf 2 (some .int) 1 := ⟨wt_in (i := 1670) (by decide +kernel) rfl, wt_in (i := 138) (by decide +kernel) rfl, by decide +kernel, by decide +kernel, by decide +kernel⟩
theorem im_X12_showsOf : Cond.instanceMethod yX12_showsOf ∈ wt_ := wt_in (i := 1669) (by decide +kernel) rfl
theorem se_X12_showsOf : Cond.selects yX12_showsOf.cls yX12_showsOf yX12_showsOf ∈ wt_ := wt_in (i := 87) (by decide +kernel) rfl
theorem ml_X12_pictureAt : ML yX12_pictureAt cX12_pictureAt 3 (some .int) 2 := ⟨wt_in (i := 1674) (by decide +kernel) rfl, wt_in (i := 138) (by decide +kernel) rfl, by decide +kernel, by decide +kernel, by decide +kernel⟩
theorem im_X12_pictureAt : Cond.instanceMethod yX12_pictureAt ∈ wt_ := wt_in (i := 1673) (by decide +kernel) rfl
theorem se_X12_pictureAt : Cond.selects yX12_pictureAt.cls yX12_pictureAt yX12_pictureAt ∈ wt_ := wt_in (i := 88) (by decide +kernel) rfl
theorem ml_X12_picture : ML yX12_picture cX12_picture 3 (some .int) 2 := ⟨wt_in (i := 1678) (by decide +kernel) rfl, wt_in (i := 138) (by decide +kernel) rfl, by decide +kernel, by decide +kernel, by decide +kernel⟩
theorem im_X12_picture : Cond.instanceMethod yX12_picture ∈ wt_ := wt_in (i := 1676) (by decide +kernel) rfl
theorem se_X12_picture : Cond.selects yX12_picture.cls yX12_picture yX12_picture ∈ wt_ := wt_in (i := 1677) (by decide +kernel) rfl
theorem ml_X12_isStrip : ML yX12_isStrip cX12_isStrip 2 (some .boolean) 1 := ⟨wt_in (i := 1682) (by decide +kernel) rfl, wt_in (i := 138) (by decide +kernel) rfl, by decide +kernel, by decide +kernel, by decide +kernel⟩
theorem im_X12_isStrip : Cond.instanceMethod yX12_isStrip ∈ wt_ := wt_in (i := 1681) (by decide +kernel) rfl
theorem se_X12_isStrip : Cond.selects yX12_isStrip.cls yX12_isStrip yX12_isStrip ∈ wt_ := wt_in (i := 89) (by decide +kernel) rfl
theorem ml_X12_law : ML yX12_law cX12_law 2 (some .boolean) 1 := ⟨wt_in (i := 1686) (by decide +kernel) rfl, wt_in (i := 138) (by decide +kernel) rfl, by decide +kernel, by decide +kernel, by decide +kernel⟩
theorem im_X12_law : Cond.instanceMethod yX12_law ∈ wt_ := wt_in (i := 1684) (by decide +kernel) rfl
theorem se_X12_law : Cond.selects yX12_law.cls yX12_law yX12_law ∈ wt_ := wt_in (i := 1685) (by decide +kernel) rfl
theorem ml_X12_touch : ML yX12_touch cX12_touch 2 (some .boolean) 1 := ⟨wt_in (i := 1690) (by decide +kernel) rfl, wt_in (i := 138) (by decide +kernel) rfl, by decide +kernel, by decide +kernel, by decide +kernel⟩
theorem im_X12_touch : Cond.instanceMethod yX12_touch ∈ wt_ := wt_in (i := 1688) (by decide +kernel) rfl
theorem se_X12_touch : Cond.selects yX12_touch.cls yX12_touch yX12_touch ∈ wt_ := wt_in (i := 1689) (by decide +kernel) rfl
theorem ml_X12_ticks : ML yX12_ticks cX12_ticks 3 (some .int) 1 := ⟨wt_in (i := 1694) (by decide +kernel) rfl, wt_in (i := 138) (by decide +kernel) rfl, by decide +kernel, by decide +kernel, by decide +kernel⟩
theorem im_X12_ticks : Cond.instanceMethod yX12_ticks ∈ wt_ := wt_in (i := 1692) (by decide +kernel) rfl
theorem se_X12_ticks : Cond.selects yX12_ticks.cls yX12_ticks yX12_ticks ∈ wt_ := wt_in (i := 1693) (by decide +kernel) rfl
theorem ml_X12_areTicks : ML yX12_areTicks cX12_areTicks 2 (some .boolean) 1 := ⟨wt_in (i := 1698) (by decide +kernel) rfl, wt_in (i := 138) (by decide +kernel) rfl, by decide +kernel, by decide +kernel, by decide +kernel⟩
theorem im_X12_areTicks : Cond.instanceMethod yX12_areTicks ∈ wt_ := wt_in (i := 1697) (by decide +kernel) rfl
theorem se_X12_areTicks : Cond.selects yX12_areTicks.cls yX12_areTicks yX12_areTicks ∈ wt_ := wt_in (i := 90) (by decide +kernel) rfl
theorem ml_X12_isRefused : ML yX12_isRefused cX12_isRefused 2 (some .boolean) 1 := ⟨wt_in (i := 1702) (by decide +kernel) rfl, wt_in (i := 138) (by decide +kernel) rfl, by decide +kernel, by decide +kernel, by decide +kernel⟩
theorem im_X12_isRefused : Cond.instanceMethod yX12_isRefused ∈ wt_ := wt_in (i := 1701) (by decide +kernel) rfl
theorem se_X12_isRefused : Cond.selects yX12_isRefused.cls yX12_isRefused yX12_isRefused ∈ wt_ := wt_in (i := 91) (by decide +kernel) rfl
theorem ml_X12_keep : ML yX12_keep cX12_keep 2 none 0 := ⟨wt_in (i := 1706) (by decide +kernel) rfl, wt_in (i := 138) (by decide +kernel) rfl, by decide +kernel, by decide +kernel, by decide +kernel⟩
theorem im_X12_keep : Cond.instanceMethod yX12_keep ∈ wt_ := wt_in (i := 1705) (by decide +kernel) rfl
theorem se_X12_keep : Cond.selects yX12_keep.cls yX12_keep yX12_keep ∈ wt_ := wt_in (i := 92) (by decide +kernel) rfl
theorem ml_X12_passTick : ML yX12_passTick cX12_passTick 2 none 0 := ⟨wt_in (i := 1710) (by decide +kernel) rfl, wt_in (i := 138) (by decide +kernel) rfl, by decide +kernel, by decide +kernel, by decide +kernel⟩
theorem im_X12_passTick : Cond.instanceMethod yX12_passTick ∈ wt_ := wt_in (i := 1709) (by decide +kernel) rfl
theorem se_X12_passTick : Cond.selects yX12_passTick.cls yX12_passTick yX12_passTick ∈ wt_ := wt_in (i := 93) (by decide +kernel) rfl
theorem ml_X12_nextOf : ML yX12_nextOf cX12_nextOf 4 (some .int) 3 := ⟨wt_in (i := 1714) (by decide +kernel) rfl, wt_in (i := 138) (by decide +kernel) rfl, by decide +kernel, by decide +kernel, by decide +kernel⟩
theorem im_X12_nextOf : Cond.instanceMethod yX12_nextOf ∈ wt_ := wt_in (i := 1713) (by decide +kernel) rfl
theorem se_X12_nextOf : Cond.selects yX12_nextOf.cls yX12_nextOf yX12_nextOf ∈ wt_ := wt_in (i := 94) (by decide +kernel) rfl
theorem ml_X12_moveBy : ML yX12_moveBy cX12_moveBy 5 (some .int) 3 := ⟨wt_in (i := 1718) (by decide +kernel) rfl, wt_in (i := 138) (by decide +kernel) rfl, by decide +kernel, by decide +kernel, by decide +kernel⟩
theorem im_X12_moveBy : Cond.instanceMethod yX12_moveBy ∈ wt_ := wt_in (i := 1717) (by decide +kernel) rfl
theorem se_X12_moveBy : Cond.selects yX12_moveBy.cls yX12_moveBy yX12_moveBy ∈ wt_ := wt_in (i := 95) (by decide +kernel) rfl
theorem ml_X12_worthOf : ML yX12_worthOf cX12_worthOf 3 (some .int) 1 := ⟨wt_in (i := 1722) (by decide +kernel) rfl, wt_in (i := 138) (by decide +kernel) rfl, by decide +kernel, by decide +kernel, by decide +kernel⟩
theorem im_X12_worthOf : Cond.instanceMethod yX12_worthOf ∈ wt_ := wt_in (i := 1721) (by decide +kernel) rfl
theorem se_X12_worthOf : Cond.selects yX12_worthOf.cls yX12_worthOf yX12_worthOf ∈ wt_ := wt_in (i := 96) (by decide +kernel) rfl
theorem ml_X12_workOut : ML yX12_workOut cX12_workOut 6 (some .int) 3 := ⟨wt_in (i := 1726) (by decide +kernel) rfl, wt_in (i := 138) (by decide +kernel) rfl, by decide +kernel, by decide +kernel, by decide +kernel⟩
theorem im_X12_workOut : Cond.instanceMethod yX12_workOut ∈ wt_ := wt_in (i := 1725) (by decide +kernel) rfl
theorem se_X12_workOut : Cond.selects yX12_workOut.cls yX12_workOut yX12_workOut ∈ wt_ := wt_in (i := 97) (by decide +kernel) rfl
theorem ml_X12_worked : ML yX12_worked cX12_worked 5 (some .int) 3 := ⟨wt_in (i := 1729) (by decide +kernel) rfl, wt_in (i := 138) (by decide +kernel) rfl, by decide +kernel, by decide +kernel, by decide +kernel⟩
theorem sm_X12_worked : Cond.static yX12_worked ∈ wt_ := wt_in (i := 1728) (by decide +kernel) rfl
theorem ml_X12_bounded : ML yX12_bounded cX12_bounded 2 (some .int) 1 := ⟨wt_in (i := 1732) (by decide +kernel) rfl, wt_in (i := 138) (by decide +kernel) rfl, by decide +kernel, by decide +kernel, by decide +kernel⟩
theorem sm_X12_bounded : Cond.static yX12_bounded ∈ wt_ := wt_in (i := 1731) (by decide +kernel) rfl
theorem ml_X12_round : ML yX12_round cX12_round 2 (some .int) 2 := ⟨wt_in (i := 1741) (by decide +kernel) rfl, wt_in (i := 138) (by decide +kernel) rfl, by decide +kernel, by decide +kernel, by decide +kernel⟩
theorem sm_X12_round : Cond.static yX12_round ∈ wt_ := wt_in (i := 1740) (by decide +kernel) rfl
theorem ml_X12_putLog : ML yX12_putLog cX12_putLog 3 none 0 := ⟨wt_in (i := 1745) (by decide +kernel) rfl, wt_in (i := 138) (by decide +kernel) rfl, by decide +kernel, by decide +kernel, by decide +kernel⟩
theorem im_X12_putLog : Cond.instanceMethod yX12_putLog ∈ wt_ := wt_in (i := 1744) (by decide +kernel) rfl
theorem se_X12_putLog : Cond.selects yX12_putLog.cls yX12_putLog yX12_putLog ∈ wt_ := wt_in (i := 98) (by decide +kernel) rfl
theorem ml_X12_flash : ML yX12_flash cX12_flash 3 (some .int) 1 := ⟨wt_in (i := 1749) (by decide +kernel) rfl, wt_in (i := 138) (by decide +kernel) rfl, by decide +kernel, by decide +kernel, by decide +kernel⟩
theorem im_X12_flash : Cond.instanceMethod yX12_flash ∈ wt_ := wt_in (i := 1747) (by decide +kernel) rfl
theorem se_X12_flash : Cond.selects yX12_flash.cls yX12_flash yX12_flash ∈ wt_ := wt_in (i := 1748) (by decide +kernel) rfl
theorem ml_X12_speed : ML yX12_speed cX12_speed 4 (some .int) 2 := ⟨wt_in (i := 1753) (by decide +kernel) rfl, wt_in (i := 138) (by decide +kernel) rfl, by decide +kernel, by decide +kernel, by decide +kernel⟩
theorem im_X12_speed : Cond.instanceMethod yX12_speed ∈ wt_ := wt_in (i := 1751) (by decide +kernel) rfl
theorem se_X12_speed : Cond.selects yX12_speed.cls yX12_speed yX12_speed ∈ wt_ := wt_in (i := 1752) (by decide +kernel) rfl
theorem ml_X12_about : ML yX12_about cX12_about 2 (some .int) 1 := ⟨wt_in (i := 1757) (by decide +kernel) rfl, wt_in (i := 138) (by decide +kernel) rfl, by decide +kernel, by decide +kernel, by decide +kernel⟩
theorem im_X12_about : Cond.instanceMethod yX12_about ∈ wt_ := wt_in (i := 1755) (by decide +kernel) rfl
theorem se_X12_about : Cond.selects yX12_about.cls yX12_about yX12_about ∈ wt_ := wt_in (i := 1756) (by decide +kernel) rfl
theorem ml_X12_push : ML yX12_push cX12_push 3 (some .int) 2 := ⟨wt_in (i := 1761) (by decide +kernel) rfl, wt_in (i := 138) (by decide +kernel) rfl, by decide +kernel, by decide +kernel, by decide +kernel⟩
theorem im_X12_push : Cond.instanceMethod yX12_push ∈ wt_ := wt_in (i := 1759) (by decide +kernel) rfl
theorem se_X12_push : Cond.selects yX12_push.cls yX12_push yX12_push ∈ wt_ := wt_in (i := 1760) (by decide +kernel) rfl
theorem ml_X12_pushNow : ML yX12_pushNow cX12_pushNow 3 none 2 := ⟨wt_in (i := 1765) (by decide +kernel) rfl, wt_in (i := 138) (by decide +kernel) rfl, by decide +kernel, by decide +kernel, by decide +kernel⟩
theorem im_X12_pushNow : Cond.instanceMethod yX12_pushNow ∈ wt_ := wt_in (i := 1764) (by decide +kernel) rfl
theorem se_X12_pushNow : Cond.selects yX12_pushNow.cls yX12_pushNow yX12_pushNow ∈ wt_ := wt_in (i := 99) (by decide +kernel) rfl
theorem ml_X12_puts : ML yX12_puts cX12_puts 3 (some .int) 2 := ⟨wt_in (i := 1769) (by decide +kernel) rfl, wt_in (i := 138) (by decide +kernel) rfl, by decide +kernel, by decide +kernel, by decide +kernel⟩
theorem im_X12_puts : Cond.instanceMethod yX12_puts ∈ wt_ := wt_in (i := 1767) (by decide +kernel) rfl
theorem se_X12_puts : Cond.selects yX12_puts.cls yX12_puts yX12_puts ∈ wt_ := wt_in (i := 1768) (by decide +kernel) rfl
theorem ml_X12_oil : ML yX12_oil cX12_oil 2 (some .int) 1 := ⟨wt_in (i := 1773) (by decide +kernel) rfl, wt_in (i := 138) (by decide +kernel) rfl, by decide +kernel, by decide +kernel, by decide +kernel⟩
theorem im_X12_oil : Cond.instanceMethod yX12_oil ∈ wt_ := wt_in (i := 1771) (by decide +kernel) rfl
theorem se_X12_oil : Cond.selects yX12_oil.cls yX12_oil yX12_oil ∈ wt_ := wt_in (i := 1772) (by decide +kernel) rfl
theorem ml_X12_give : ML yX12_give cX12_give 2 (some .int) 1 := ⟨wt_in (i := 1777) (by decide +kernel) rfl, wt_in (i := 138) (by decide +kernel) rfl, by decide +kernel, by decide +kernel, by decide +kernel⟩
theorem im_X12_give : Cond.instanceMethod yX12_give ∈ wt_ := wt_in (i := 1775) (by decide +kernel) rfl
theorem se_X12_give : Cond.selects yX12_give.cls yX12_give yX12_give ∈ wt_ := wt_in (i := 1776) (by decide +kernel) rfl
theorem ml_X12_years : ML yX12_years cX12_years 5 (some .int) 2 := ⟨wt_in (i := 1781) (by decide +kernel) rfl, wt_in (i := 138) (by decide +kernel) rfl, by decide +kernel, by decide +kernel, by decide +kernel⟩
theorem im_X12_years : Cond.instanceMethod yX12_years ∈ wt_ := wt_in (i := 1779) (by decide +kernel) rfl
theorem se_X12_years : Cond.selects yX12_years.cls yX12_years yX12_years ∈ wt_ := wt_in (i := 1780) (by decide +kernel) rfl
theorem ml_X12_drawTick : ML yX12_drawTick cX12_drawTick 2 none 0 := ⟨wt_in (i := 1785) (by decide +kernel) rfl, wt_in (i := 138) (by decide +kernel) rfl, by decide +kernel, by decide +kernel, by decide +kernel⟩
theorem im_X12_drawTick : Cond.instanceMethod yX12_drawTick ∈ wt_ := wt_in (i := 1784) (by decide +kernel) rfl
theorem se_X12_drawTick : Cond.selects yX12_drawTick.cls yX12_drawTick yX12_drawTick ∈ wt_ := wt_in (i := 100) (by decide +kernel) rfl
theorem ml_X12_draw : ML yX12_draw cX12_draw 2 (some .int) 1 := ⟨wt_in (i := 1789) (by decide +kernel) rfl, wt_in (i := 138) (by decide +kernel) rfl, by decide +kernel, by decide +kernel, by decide +kernel⟩
theorem im_X12_draw : Cond.instanceMethod yX12_draw ∈ wt_ := wt_in (i := 1788) (by decide +kernel) rfl
theorem se_X12_draw : Cond.selects yX12_draw.cls yX12_draw yX12_draw ∈ wt_ := wt_in (i := 101) (by decide +kernel) rfl
theorem ml_X12_status : ML yX12_status cX12_status 2 (some .int) 1 := ⟨wt_in (i := 1795) (by decide +kernel) rfl, wt_in (i := 138) (by decide +kernel) rfl, by decide +kernel, by decide +kernel, by decide +kernel⟩
theorem im_X12_status : Cond.instanceMethod yX12_status ∈ wt_ := wt_in (i := 1793) (by decide +kernel) rfl
theorem se_X12_status : Cond.selects yX12_status.cls yX12_status yX12_status ∈ wt_ := wt_in (i := 1794) (by decide +kernel) rfl
theorem ml_X12_undo : ML yX12_undo cX12_undo 2 (some .int) 0 := ⟨wt_in (i := 1799) (by decide +kernel) rfl, wt_in (i := 138) (by decide +kernel) rfl, by decide +kernel, by decide +kernel, by decide +kernel⟩
theorem im_X12_undo : Cond.instanceMethod yX12_undo ∈ wt_ := wt_in (i := 1797) (by decide +kernel) rfl
theorem se_X12_undo : Cond.selects yX12_undo.cls yX12_undo yX12_undo ∈ wt_ := wt_in (i := 1798) (by decide +kernel) rfl
theorem ml_X12_log : ML yX12_log cX12_log 3 (some .int) 2 := ⟨wt_in (i := 1803) (by decide +kernel) rfl, wt_in (i := 138) (by decide +kernel) rfl, by decide +kernel, by decide +kernel, by decide +kernel⟩
theorem im_X12_log : Cond.instanceMethod yX12_log ∈ wt_ := wt_in (i := 1801) (by decide +kernel) rfl
theorem se_X12_log : Cond.selects yX12_log.cls yX12_log yX12_log ∈ wt_ := wt_in (i := 1802) (by decide +kernel) rfl
theorem ml_X12_at : ML yX12_at cX12_at 3 (some .int) 2 := ⟨wt_in (i := 1807) (by decide +kernel) rfl, wt_in (i := 138) (by decide +kernel) rfl, by decide +kernel, by decide +kernel, by decide +kernel⟩
theorem im_X12_at : Cond.instanceMethod yX12_at ∈ wt_ := wt_in (i := 1805) (by decide +kernel) rfl
theorem se_X12_at : Cond.selects yX12_at.cls yX12_at yX12_at ∈ wt_ := wt_in (i := 1806) (by decide +kernel) rfl
theorem ml_X12_placeBehind : ML yX12_placeBehind cX12_placeBehind 5 (some .int) 2 := ⟨wt_in (i := 1811) (by decide +kernel) rfl, wt_in (i := 138) (by decide +kernel) rfl, by decide +kernel, by decide +kernel, by decide +kernel⟩
theorem im_X12_placeBehind : Cond.instanceMethod yX12_placeBehind ∈ wt_ := wt_in (i := 1810) (by decide +kernel) rfl
theorem se_X12_placeBehind : Cond.selects yX12_placeBehind.cls yX12_placeBehind yX12_placeBehind ∈ wt_ := wt_in (i := 102) (by decide +kernel) rfl
theorem ml_X12_seems : ML yX12_seems cX12_seems 5 (some .int) 2 := ⟨wt_in (i := 1815) (by decide +kernel) rfl, wt_in (i := 138) (by decide +kernel) rfl, by decide +kernel, by decide +kernel, by decide +kernel⟩
theorem im_X12_seems : Cond.instanceMethod yX12_seems ∈ wt_ := wt_in (i := 1813) (by decide +kernel) rfl
theorem se_X12_seems : Cond.selects yX12_seems.cls yX12_seems yX12_seems ∈ wt_ := wt_in (i := 1814) (by decide +kernel) rfl
theorem ml_X12_stands : ML yX12_stands cX12_stands 5 (some .int) 2 := ⟨wt_in (i := 1820) (by decide +kernel) rfl, wt_in (i := 138) (by decide +kernel) rfl, by decide +kernel, by decide +kernel, by decide +kernel⟩
theorem im_X12_stands : Cond.instanceMethod yX12_stands ∈ wt_ := wt_in (i := 1818) (by decide +kernel) rfl
theorem se_X12_stands : Cond.selects yX12_stands.cls yX12_stands yX12_stands ∈ wt_ := wt_in (i := 1819) (by decide +kernel) rfl
theorem ml_X12_layTrail : ML yX12_layTrail cX12_layTrail 3 none 1 := ⟨wt_in (i := 1824) (by decide +kernel) rfl, wt_in (i := 138) (by decide +kernel) rfl, by decide +kernel, by decide +kernel, by decide +kernel⟩
theorem im_X12_layTrail : Cond.instanceMethod yX12_layTrail ∈ wt_ := wt_in (i := 1823) (by decide +kernel) rfl
theorem se_X12_layTrail : Cond.selects yX12_layTrail.cls yX12_layTrail yX12_layTrail ∈ wt_ := wt_in (i := 103) (by decide +kernel) rfl
theorem ml_X12_standsBy : ML yX12_standsBy cX12_standsBy 3 (some .boolean) 1 := ⟨wt_in (i := 1828) (by decide +kernel) rfl, wt_in (i := 138) (by decide +kernel) rfl, by decide +kernel, by decide +kernel, by decide +kernel⟩
theorem im_X12_standsBy : Cond.instanceMethod yX12_standsBy ∈ wt_ := wt_in (i := 1827) (by decide +kernel) rfl
theorem se_X12_standsBy : Cond.selects yX12_standsBy.cls yX12_standsBy yX12_standsBy ∈ wt_ := wt_in (i := 104) (by decide +kernel) rfl
theorem ml_X12_together : ML yX12_together cX12_together 3 (some .int) 0 := ⟨wt_in (i := 1832) (by decide +kernel) rfl, wt_in (i := 138) (by decide +kernel) rfl, by decide +kernel, by decide +kernel, by decide +kernel⟩
theorem im_X12_together : Cond.instanceMethod yX12_together ∈ wt_ := wt_in (i := 1830) (by decide +kernel) rfl
theorem se_X12_together : Cond.selects yX12_together.cls yX12_together yX12_together ∈ wt_ := wt_in (i := 1831) (by decide +kernel) rfl
theorem ml_X12_again : ML yX12_again cX12_again 4 (some .int) 1 := ⟨wt_in (i := 1836) (by decide +kernel) rfl, wt_in (i := 138) (by decide +kernel) rfl, by decide +kernel, by decide +kernel, by decide +kernel⟩
theorem im_X12_again : Cond.instanceMethod yX12_again ∈ wt_ := wt_in (i := 1834) (by decide +kernel) rfl
theorem se_X12_again : Cond.selects yX12_again.cls yX12_again yX12_again ∈ wt_ := wt_in (i := 1835) (by decide +kernel) rfl
theorem ml_X12_startSpots : ML yX12_startSpots cX12_startSpots 2 none 0 := ⟨wt_in (i := 1840) (by decide +kernel) rfl, wt_in (i := 138) (by decide +kernel) rfl, by decide +kernel, by decide +kernel, by decide +kernel⟩
theorem im_X12_startSpots : Cond.instanceMethod yX12_startSpots ∈ wt_ := wt_in (i := 1839) (by decide +kernel) rfl
theorem se_X12_startSpots : Cond.selects yX12_startSpots.cls yX12_startSpots yX12_startSpots ∈ wt_ := wt_in (i := 105) (by decide +kernel) rfl
theorem ml_X12_goSpots : ML yX12_goSpots cX12_goSpots 3 none 1 := ⟨wt_in (i := 1844) (by decide +kernel) rfl, wt_in (i := 138) (by decide +kernel) rfl, by decide +kernel, by decide +kernel, by decide +kernel⟩
theorem im_X12_goSpots : Cond.instanceMethod yX12_goSpots ∈ wt_ := wt_in (i := 1843) (by decide +kernel) rfl
theorem se_X12_goSpots : Cond.selects yX12_goSpots.cls yX12_goSpots yX12_goSpots ∈ wt_ := wt_in (i := 106) (by decide +kernel) rfl
theorem ml_X12_areHome : ML yX12_areHome cX12_areHome 4 (some .boolean) 1 := ⟨wt_in (i := 1848) (by decide +kernel) rfl, wt_in (i := 138) (by decide +kernel) rfl, by decide +kernel, by decide +kernel, by decide +kernel⟩
theorem im_X12_areHome : Cond.instanceMethod yX12_areHome ∈ wt_ := wt_in (i := 1847) (by decide +kernel) rfl
theorem se_X12_areHome : Cond.selects yX12_areHome.cls yX12_areHome yX12_areHome ∈ wt_ := wt_in (i := 107) (by decide +kernel) rfl
theorem ml_X12_meets : ML yX12_meets cX12_meets 4 (some .int) 2 := ⟨wt_in (i := 1852) (by decide +kernel) rfl, wt_in (i := 138) (by decide +kernel) rfl, by decide +kernel, by decide +kernel, by decide +kernel⟩
theorem im_X12_meets : Cond.instanceMethod yX12_meets ∈ wt_ := wt_in (i := 1850) (by decide +kernel) rfl
theorem se_X12_meets : Cond.selects yX12_meets.cls yX12_meets yX12_meets ∈ wt_ := wt_in (i := 1851) (by decide +kernel) rfl
theorem ml_X12_spotShows : ML yX12_spotShows cX12_spotShows 2 (some .int) 1 := ⟨wt_in (i := 1856) (by decide +kernel) rfl, wt_in (i := 138) (by decide +kernel) rfl, by decide +kernel, by decide +kernel, by decide +kernel⟩
theorem im_X12_spotShows : Cond.instanceMethod yX12_spotShows ∈ wt_ := wt_in (i := 1855) (by decide +kernel) rfl
theorem se_X12_spotShows : Cond.selects yX12_spotShows.cls yX12_spotShows yX12_spotShows ∈ wt_ := wt_in (i := 108) (by decide +kernel) rfl
theorem ml_X12_reads : ML yX12_reads cX12_reads 5 (some .int) 1 := ⟨wt_in (i := 1860) (by decide +kernel) rfl, wt_in (i := 138) (by decide +kernel) rfl, by decide +kernel, by decide +kernel, by decide +kernel⟩
theorem im_X12_reads : Cond.instanceMethod yX12_reads ∈ wt_ := wt_in (i := 1858) (by decide +kernel) rfl
theorem se_X12_reads : Cond.selects yX12_reads.cls yX12_reads yX12_reads ∈ wt_ := wt_in (i := 1859) (by decide +kernel) rfl
theorem ml_X12_period : ML yX12_period cX12_period 3 (some .int) 1 := ⟨wt_in (i := 1864) (by decide +kernel) rfl, wt_in (i := 138) (by decide +kernel) rfl, by decide +kernel, by decide +kernel, by decide +kernel⟩
theorem im_X12_period : Cond.instanceMethod yX12_period ∈ wt_ := wt_in (i := 1862) (by decide +kernel) rfl
theorem se_X12_period : Cond.selects yX12_period.cls yX12_period yX12_period ∈ wt_ := wt_in (i := 1863) (by decide +kernel) rfl
theorem ml_X12_isAlike : ML yX12_isAlike cX12_isAlike 6 (some .boolean) 4 := ⟨wt_in (i := 1868) (by decide +kernel) rfl, wt_in (i := 138) (by decide +kernel) rfl, by decide +kernel, by decide +kernel, by decide +kernel⟩
theorem im_X12_isAlike : Cond.instanceMethod yX12_isAlike ∈ wt_ := wt_in (i := 1867) (by decide +kernel) rfl
theorem se_X12_isAlike : Cond.selects yX12_isAlike.cls yX12_isAlike yX12_isAlike ∈ wt_ := wt_in (i := 109) (by decide +kernel) rfl
theorem ml_X12_turned : ML yX12_turned cX12_turned 7 (some .int) 4 := ⟨wt_in (i := 1872) (by decide +kernel) rfl, wt_in (i := 138) (by decide +kernel) rfl, by decide +kernel, by decide +kernel, by decide +kernel⟩
theorem im_X12_turned : Cond.instanceMethod yX12_turned ∈ wt_ := wt_in (i := 1871) (by decide +kernel) rfl
theorem se_X12_turned : Cond.selects yX12_turned.cls yX12_turned yX12_turned ∈ wt_ := wt_in (i := 110) (by decide +kernel) rfl
theorem ml_X12_least : ML yX12_least cX12_least 4 (some .int) 1 := ⟨wt_in (i := 1876) (by decide +kernel) rfl, wt_in (i := 138) (by decide +kernel) rfl, by decide +kernel, by decide +kernel, by decide +kernel⟩
theorem im_X12_least : Cond.instanceMethod yX12_least ∈ wt_ := wt_in (i := 1874) (by decide +kernel) rfl
theorem se_X12_least : Cond.selects yX12_least.cls yX12_least yX12_least ∈ wt_ := wt_in (i := 1875) (by decide +kernel) rfl
theorem ml_X12_isAhead : ML yX12_isAhead cX12_isAhead 7 (some .boolean) 3 := ⟨wt_in (i := 1880) (by decide +kernel) rfl, wt_in (i := 138) (by decide +kernel) rfl, by decide +kernel, by decide +kernel, by decide +kernel⟩
theorem im_X12_isAhead : Cond.instanceMethod yX12_isAhead ∈ wt_ := wt_in (i := 1879) (by decide +kernel) rfl
theorem se_X12_isAhead : Cond.selects yX12_isAhead.cls yX12_isAhead yX12_isAhead ∈ wt_ := wt_in (i := 111) (by decide +kernel) rfl
theorem ml_X12_alike : ML yX12_alike cX12_alike 4 (some .int) 3 := ⟨wt_in (i := 1884) (by decide +kernel) rfl, wt_in (i := 138) (by decide +kernel) rfl, by decide +kernel, by decide +kernel, by decide +kernel⟩
theorem im_X12_alike : Cond.instanceMethod yX12_alike ∈ wt_ := wt_in (i := 1882) (by decide +kernel) rfl
theorem se_X12_alike : Cond.selects yX12_alike.cls yX12_alike yX12_alike ∈ wt_ := wt_in (i := 1883) (by decide +kernel) rfl
theorem ml_X12_alikeBy : ML yX12_alikeBy cX12_alikeBy 5 (some .int) 3 := ⟨wt_in (i := 1888) (by decide +kernel) rfl, wt_in (i := 138) (by decide +kernel) rfl, by decide +kernel, by decide +kernel, by decide +kernel⟩
theorem im_X12_alikeBy : Cond.instanceMethod yX12_alikeBy ∈ wt_ := wt_in (i := 1887) (by decide +kernel) rfl
theorem se_X12_alikeBy : Cond.selects yX12_alikeBy.cls yX12_alikeBy yX12_alikeBy ∈ wt_ := wt_in (i := 112) (by decide +kernel) rfl
theorem ml_X12_mirror : ML yX12_mirror cX12_mirror 2 (some .int) 1 := ⟨wt_in (i := 1892) (by decide +kernel) rfl, wt_in (i := 138) (by decide +kernel) rfl, by decide +kernel, by decide +kernel, by decide +kernel⟩
theorem im_X12_mirror : Cond.instanceMethod yX12_mirror ∈ wt_ := wt_in (i := 1890) (by decide +kernel) rfl
theorem se_X12_mirror : Cond.selects yX12_mirror.cls yX12_mirror yX12_mirror ∈ wt_ := wt_in (i := 1891) (by decide +kernel) rfl
theorem ml_X12_rows : ML yX12_rows cX12_rows 7 (some .int) 2 := ⟨wt_in (i := 1896) (by decide +kernel) rfl, wt_in (i := 138) (by decide +kernel) rfl, by decide +kernel, by decide +kernel, by decide +kernel⟩
theorem im_X12_rows : Cond.instanceMethod yX12_rows ∈ wt_ := wt_in (i := 1894) (by decide +kernel) rfl
theorem se_X12_rows : Cond.selects yX12_rows.cls yX12_rows yX12_rows ∈ wt_ := wt_in (i := 1895) (by decide +kernel) rfl
theorem ml_X12_areRowsAlike : ML yX12_areRowsAlike cX12_areRowsAlike 6 (some .boolean) 4 := ⟨wt_in (i := 1900) (by decide +kernel) rfl, wt_in (i := 138) (by decide +kernel) rfl, by decide +kernel, by decide +kernel, by decide +kernel⟩
theorem im_X12_areRowsAlike : Cond.instanceMethod yX12_areRowsAlike ∈ wt_ := wt_in (i := 1899) (by decide +kernel) rfl
theorem se_X12_areRowsAlike : Cond.selects yX12_areRowsAlike.cls yX12_areRowsAlike yX12_areRowsAlike ∈ wt_ := wt_in (i := 113) (by decide +kernel) rfl
theorem ml_X12_kinds : ML yX12_kinds cX12_kinds 7 (some .int) 3 := ⟨wt_in (i := 1904) (by decide +kernel) rfl, wt_in (i := 138) (by decide +kernel) rfl, by decide +kernel, by decide +kernel, by decide +kernel⟩
theorem im_X12_kinds : Cond.instanceMethod yX12_kinds ∈ wt_ := wt_in (i := 1902) (by decide +kernel) rfl
theorem se_X12_kinds : Cond.selects yX12_kinds.cls yX12_kinds yX12_kinds ∈ wt_ := wt_in (i := 1903) (by decide +kernel) rfl
theorem ml_X12_commonOf : ML yX12_commonOf cX12_commonOf 2 (some .int) 2 := ⟨wt_in (i := 1907) (by decide +kernel) rfl, wt_in (i := 138) (by decide +kernel) rfl, by decide +kernel, by decide +kernel, by decide +kernel⟩
theorem sm_X12_commonOf : Cond.static yX12_commonOf ∈ wt_ := wt_in (i := 1906) (by decide +kernel) rfl
theorem ml_X12_power : ML yX12_power cX12_power 5 (some .long) 2 := ⟨wt_in (i := 1910) (by decide +kernel) rfl, wt_in (i := 138) (by decide +kernel) rfl, by decide +kernel, by decide +kernel, by decide +kernel⟩
theorem sm_X12_power : Cond.static yX12_power ∈ wt_ := wt_in (i := 1909) (by decide +kernel) rfl
theorem ml_X12_noted : ML yX12_noted cX12_noted 4 (some .int) 3 := ⟨wt_in (i := 1914) (by decide +kernel) rfl, wt_in (i := 138) (by decide +kernel) rfl, by decide +kernel, by decide +kernel, by decide +kernel⟩
theorem im_X12_noted : Cond.instanceMethod yX12_noted ∈ wt_ := wt_in (i := 1912) (by decide +kernel) rfl
theorem se_X12_noted : Cond.selects yX12_noted.cls yX12_noted yX12_noted ∈ wt_ := wt_in (i := 1913) (by decide +kernel) rfl
theorem ml_X12_fits : ML yX12_fits cX12_fits 4 (some .int) 1 := ⟨wt_in (i := 1918) (by decide +kernel) rfl, wt_in (i := 138) (by decide +kernel) rfl, by decide +kernel, by decide +kernel, by decide +kernel⟩
theorem im_X12_fits : Cond.instanceMethod yX12_fits ∈ wt_ := wt_in (i := 1916) (by decide +kernel) rfl
theorem se_X12_fits : Cond.selects yX12_fits.cls yX12_fits yX12_fits ∈ wt_ := wt_in (i := 1917) (by decide +kernel) rfl
theorem ml_X12_isFit : ML yX12_isFit cX12_isFit 5 (some .boolean) 3 := ⟨wt_in (i := 1922) (by decide +kernel) rfl, wt_in (i := 138) (by decide +kernel) rfl, by decide +kernel, by decide +kernel, by decide +kernel⟩
theorem im_X12_isFit : Cond.instanceMethod yX12_isFit ∈ wt_ := wt_in (i := 1921) (by decide +kernel) rfl
theorem se_X12_isFit : Cond.selects yX12_isFit.cls yX12_isFit yX12_isFit ∈ wt_ := wt_in (i := 114) (by decide +kernel) rfl
theorem ml_X12_shownBy : ML yX12_shownBy cX12_shownBy 5 (some .int) 4 := ⟨wt_in (i := 1926) (by decide +kernel) rfl, wt_in (i := 138) (by decide +kernel) rfl, by decide +kernel, by decide +kernel, by decide +kernel⟩
theorem im_X12_shownBy : Cond.instanceMethod yX12_shownBy ∈ wt_ := wt_in (i := 1925) (by decide +kernel) rfl
theorem se_X12_shownBy : Cond.selects yX12_shownBy.cls yX12_shownBy yX12_shownBy ∈ wt_ := wt_in (i := 115) (by decide +kernel) rfl
theorem ml_X12_ask : ML yX12_ask cX12_ask 6 (some .int) 0 := ⟨wt_in (i := 1930) (by decide +kernel) rfl, wt_in (i := 138) (by decide +kernel) rfl, by decide +kernel, by decide +kernel, by decide +kernel⟩
theorem im_X12_ask : Cond.instanceMethod yX12_ask ∈ wt_ := wt_in (i := 1928) (by decide +kernel) rfl
theorem se_X12_ask : Cond.selects yX12_ask.cls yX12_ask yX12_ask ∈ wt_ := wt_in (i := 1929) (by decide +kernel) rfl
theorem ml_X12_game : ML yX12_game cX12_game 5 (some .int) 4 := ⟨wt_in (i := 1935) (by decide +kernel) rfl, wt_in (i := 138) (by decide +kernel) rfl, by decide +kernel, by decide +kernel, by decide +kernel⟩
theorem im_X12_game : Cond.instanceMethod yX12_game ∈ wt_ := wt_in (i := 1933) (by decide +kernel) rfl
theorem se_X12_game : Cond.selects yX12_game.cls yX12_game yX12_game ∈ wt_ := wt_in (i := 1934) (by decide +kernel) rfl
theorem ml_X12_gameOf : ML yX12_gameOf cX12_gameOf 7 (some .int) 4 := ⟨wt_in (i := 1939) (by decide +kernel) rfl, wt_in (i := 138) (by decide +kernel) rfl, by decide +kernel, by decide +kernel, by decide +kernel⟩
theorem im_X12_gameOf : Cond.instanceMethod yX12_gameOf ∈ wt_ := wt_in (i := 1938) (by decide +kernel) rfl
theorem se_X12_gameOf : Cond.selects yX12_gameOf.cls yX12_gameOf yX12_gameOf ∈ wt_ := wt_in (i := 116) (by decide +kernel) rfl
theorem ml_X12_rests : ML yX12_rests cX12_rests 5 (some .int) 2 := ⟨wt_in (i := 1945) (by decide +kernel) rfl, wt_in (i := 138) (by decide +kernel) rfl, by decide +kernel, by decide +kernel, by decide +kernel⟩
theorem im_X12_rests : Cond.instanceMethod yX12_rests ∈ wt_ := wt_in (i := 1943) (by decide +kernel) rfl
theorem se_X12_rests : Cond.selects yX12_rests.cls yX12_rests yX12_rests ∈ wt_ := wt_in (i := 1944) (by decide +kernel) rfl
theorem ml_X12_isRest : ML yX12_isRest cX12_isRest 5 (some .boolean) 3 := ⟨wt_in (i := 1949) (by decide +kernel) rfl, wt_in (i := 138) (by decide +kernel) rfl, by decide +kernel, by decide +kernel, by decide +kernel⟩
theorem im_X12_isRest : Cond.instanceMethod yX12_isRest ∈ wt_ := wt_in (i := 1948) (by decide +kernel) rfl
theorem se_X12_isRest : Cond.selects yX12_isRest.cls yX12_isRest yX12_isRest ∈ wt_ := wt_in (i := 117) (by decide +kernel) rfl
theorem ml_X12_odds : ML yX12_odds cX12_odds 5 (some .int) 4 := ⟨wt_in (i := 1953) (by decide +kernel) rfl, wt_in (i := 138) (by decide +kernel) rfl, by decide +kernel, by decide +kernel, by decide +kernel⟩
theorem im_X12_odds : Cond.instanceMethod yX12_odds ∈ wt_ := wt_in (i := 1951) (by decide +kernel) rfl
theorem se_X12_odds : Cond.selects yX12_odds.cls yX12_odds yX12_odds ∈ wt_ := wt_in (i := 1952) (by decide +kernel) rfl
theorem ml_X12_oddsFrom : ML yX12_oddsFrom cX12_oddsFrom 9 (some .int) 7 := ⟨wt_in (i := 1958) (by decide +kernel) rfl, wt_in (i := 138) (by decide +kernel) rfl, by decide +kernel, by decide +kernel, by decide +kernel⟩
theorem im_X12_oddsFrom : Cond.instanceMethod yX12_oddsFrom ∈ wt_ := wt_in (i := 1957) (by decide +kernel) rfl
theorem se_X12_oddsFrom : Cond.selects yX12_oddsFrom.cls yX12_oddsFrom yX12_oddsFrom ∈ wt_ := wt_in (i := 118) (by decide +kernel) rfl
theorem ml_X12_shares : ML yX12_shares cX12_shares 5 (some .int) 2 := ⟨wt_in (i := 1963) (by decide +kernel) rfl, wt_in (i := 138) (by decide +kernel) rfl, by decide +kernel, by decide +kernel, by decide +kernel⟩
theorem im_X12_shares : Cond.instanceMethod yX12_shares ∈ wt_ := wt_in (i := 1961) (by decide +kernel) rfl
theorem se_X12_shares : Cond.selects yX12_shares.cls yX12_shares yX12_shares ∈ wt_ := wt_in (i := 1962) (by decide +kernel) rfl
theorem ml_X12_most : ML yX12_most cX12_most 2 (some .int) 1 := ⟨wt_in (i := 1967) (by decide +kernel) rfl, wt_in (i := 138) (by decide +kernel) rfl, by decide +kernel, by decide +kernel, by decide +kernel⟩
theorem im_X12_most : Cond.instanceMethod yX12_most ∈ wt_ := wt_in (i := 1965) (by decide +kernel) rfl
theorem se_X12_most : Cond.selects yX12_most.cls yX12_most yX12_most ∈ wt_ := wt_in (i := 1966) (by decide +kernel) rfl
theorem ml_X12_topBy : ML yX12_topBy cX12_topBy 5 (some .int) 1 := ⟨wt_in (i := 1971) (by decide +kernel) rfl, wt_in (i := 138) (by decide +kernel) rfl, by decide +kernel, by decide +kernel, by decide +kernel⟩
theorem im_X12_topBy : Cond.instanceMethod yX12_topBy ∈ wt_ := wt_in (i := 1970) (by decide +kernel) rfl
theorem se_X12_topBy : Cond.selects yX12_topBy.cls yX12_topBy yX12_topBy ∈ wt_ := wt_in (i := 119) (by decide +kernel) rfl
theorem ml_X12_commonest : ML yX12_commonest cX12_commonest 3 (some .int) 0 := ⟨wt_in (i := 1975) (by decide +kernel) rfl, wt_in (i := 138) (by decide +kernel) rfl, by decide +kernel, by decide +kernel, by decide +kernel⟩
theorem im_X12_commonest : Cond.instanceMethod yX12_commonest ∈ wt_ := wt_in (i := 1974) (by decide +kernel) rfl
theorem se_X12_commonest : Cond.selects yX12_commonest.cls yX12_commonest yX12_commonest ∈ wt_ := wt_in (i := 120) (by decide +kernel) rfl
theorem ml_X12_stripsWith : ML yX12_stripsWith cX12_stripsWith 6 (some .int) 1 := ⟨wt_in (i := 1979) (by decide +kernel) rfl, wt_in (i := 138) (by decide +kernel) rfl, by decide +kernel, by decide +kernel, by decide +kernel⟩
theorem im_X12_stripsWith : Cond.instanceMethod yX12_stripsWith ∈ wt_ := wt_in (i := 1978) (by decide +kernel) rfl
theorem se_X12_stripsWith : Cond.selects yX12_stripsWith.cls yX12_stripsWith yX12_stripsWith ∈ wt_ := wt_in (i := 121) (by decide +kernel) rfl
theorem ml_X12_shownOnes : ML yX12_shownOnes cX12_shownOnes 3 (some .int) 0 := ⟨wt_in (i := 1983) (by decide +kernel) rfl, wt_in (i := 138) (by decide +kernel) rfl, by decide +kernel, by decide +kernel, by decide +kernel⟩
theorem im_X12_shownOnes : Cond.instanceMethod yX12_shownOnes ∈ wt_ := wt_in (i := 1982) (by decide +kernel) rfl
theorem se_X12_shownOnes : Cond.selects yX12_shownOnes.cls yX12_shownOnes yX12_shownOnes ∈ wt_ := wt_in (i := 122) (by decide +kernel) rfl
theorem ml_X12_twins : ML yX12_twins cX12_twins 4 (some .int) 0 := ⟨wt_in (i := 1987) (by decide +kernel) rfl, wt_in (i := 138) (by decide +kernel) rfl, by decide +kernel, by decide +kernel, by decide +kernel⟩
theorem im_X12_twins : Cond.instanceMethod yX12_twins ∈ wt_ := wt_in (i := 1986) (by decide +kernel) rfl
theorem se_X12_twins : Cond.selects yX12_twins.cls yX12_twins yX12_twins ∈ wt_ := wt_in (i := 123) (by decide +kernel) rfl
theorem ml_X12_orderRow : ML yX12_orderRow cX12_orderRow 4 (some .int) 0 := ⟨wt_in (i := 1991) (by decide +kernel) rfl, wt_in (i := 138) (by decide +kernel) rfl, by decide +kernel, by decide +kernel, by decide +kernel⟩
theorem im_X12_orderRow : Cond.instanceMethod yX12_orderRow ∈ wt_ := wt_in (i := 1990) (by decide +kernel) rfl
theorem se_X12_orderRow : Cond.selects yX12_orderRow.cls yX12_orderRow yX12_orderRow ∈ wt_ := wt_in (i := 124) (by decide +kernel) rfl
theorem ml_X12_onesWho : ML yX12_onesWho cX12_onesWho 5 (some .int) 1 := ⟨wt_in (i := 1995) (by decide +kernel) rfl, wt_in (i := 138) (by decide +kernel) rfl, by decide +kernel, by decide +kernel, by decide +kernel⟩
theorem im_X12_onesWho : Cond.instanceMethod yX12_onesWho ∈ wt_ := wt_in (i := 1994) (by decide +kernel) rfl
theorem se_X12_onesWho : Cond.selects yX12_onesWho.cls yX12_onesWho yX12_onesWho ∈ wt_ := wt_in (i := 125) (by decide +kernel) rfl
theorem ml_X12_image : ML yX12_image cX12_image 2 (some .int) 0 := ⟨wt_in (i := 1999) (by decide +kernel) rfl, wt_in (i := 138) (by decide +kernel) rfl, by decide +kernel, by decide +kernel, by decide +kernel⟩
theorem im_X12_image : Cond.instanceMethod yX12_image ∈ wt_ := wt_in (i := 1997) (by decide +kernel) rfl
theorem se_X12_image : Cond.selects yX12_image.cls yX12_image yX12_image ∈ wt_ := wt_in (i := 1998) (by decide +kernel) rfl
theorem ml_X12_back : ML yX12_back cX12_back 2 (some .int) 0 := ⟨wt_in (i := 2003) (by decide +kernel) rfl, wt_in (i := 138) (by decide +kernel) rfl, by decide +kernel, by decide +kernel, by decide +kernel⟩
theorem im_X12_back : Cond.instanceMethod yX12_back ∈ wt_ := wt_in (i := 2001) (by decide +kernel) rfl
theorem se_X12_back : Cond.selects yX12_back.cls yX12_back yX12_back ∈ wt_ := wt_in (i := 2002) (by decide +kernel) rfl
theorem ml_X12_count : ML yX12_count cX12_count 2 (some .int) 1 := ⟨wt_in (i := 2007) (by decide +kernel) rfl, wt_in (i := 138) (by decide +kernel) rfl, by decide +kernel, by decide +kernel, by decide +kernel⟩
theorem im_X12_count : Cond.instanceMethod yX12_count ∈ wt_ := wt_in (i := 2005) (by decide +kernel) rfl
theorem se_X12_count : Cond.selects yX12_count.cls yX12_count yX12_count ∈ wt_ := wt_in (i := 2006) (by decide +kernel) rfl
theorem iz_L : Cond.initialized RL ∈ wt_ := wt_in (i := 126) (by decide +kernel) rfl
theorem iz_X11 : Cond.initialized RX11 ∈ wt_ := wt_in (i := 127) (by decide +kernel) rfl
theorem iz_X6 : Cond.initialized RX6 ∈ wt_ := wt_in (i := 128) (by decide +kernel) rfl
theorem iz_X1 : Cond.initialized RX1 ∈ wt_ := wt_in (i := 129) (by decide +kernel) rfl
theorem iz_X3 : Cond.initialized RX3 ∈ wt_ := wt_in (i := 130) (by decide +kernel) rfl
theorem iz_X9 : Cond.initialized RX9 ∈ wt_ := wt_in (i := 131) (by decide +kernel) rfl
theorem iz_X8 : Cond.initialized RX8 ∈ wt_ := wt_in (i := 132) (by decide +kernel) rfl
theorem iz_X7 : Cond.initialized RX7 ∈ wt_ := wt_in (i := 133) (by decide +kernel) rfl
theorem iz_X10 : Cond.initialized RX10 ∈ wt_ := wt_in (i := 134) (by decide +kernel) rfl
theorem iz_X5 : Cond.initialized RX5 ∈ wt_ := wt_in (i := 135) (by decide +kernel) rfl
theorem iz_X4 : Cond.initialized RX4 ∈ wt_ := wt_in (i := 136) (by decide +kernel) rfl
theorem iz_X0 : Cond.initialized RX0 ∈ wt_ := wt_in (i := 137) (by decide +kernel) rfl
theorem iz_X12 : Cond.initialized RX12 ∈ wt_ := wt_in (i := 138) (by decide +kernel) rfl
theorem iz_J9 : Cond.initialized RJ9 ∈ wt_ := wt_in (i := 139) (by decide +kernel) rfl
theorem iz_J10 : Cond.initialized RJ10 ∈ wt_ := wt_in (i := 140) (by decide +kernel) rfl
theorem iz_J0 : Cond.initialized RJ0 ∈ wt_ := wt_in (i := 141) (by decide +kernel) rfl
theorem iz_J1 : Cond.initialized RJ1 ∈ wt_ := wt_in (i := 142) (by decide +kernel) rfl
theorem iz_J2 : Cond.initialized RJ2 ∈ wt_ := wt_in (i := 143) (by decide +kernel) rfl
theorem iz_J3 : Cond.initialized RJ3 ∈ wt_ := wt_in (i := 144) (by decide +kernel) rfl
theorem iz_J11 : Cond.initialized RJ11 ∈ wt_ := wt_in (i := 145) (by decide +kernel) rfl
theorem iz_X2 : Cond.initialized RX2 ∈ wt_ := wt_in (i := 146) (by decide +kernel) rfl
theorem iz_J7 : Cond.initialized RJ7 ∈ wt_ := wt_in (i := 147) (by decide +kernel) rfl
theorem iz_J6 : Cond.initialized RJ6 ∈ wt_ := wt_in (i := 152) (by decide +kernel) rfl
theorem kl_L_8 : Cond.classLink RL 8 RX11 ∈ wt_ := wt_in (i := 153) (by decide +kernel) rfl
theorem in_X11 : Cond.instantiable RX11 20 ∈ wt_ := wt_in (i := 154) (by decide +kernel) rfl
theorem lk_L_15 : Cond.methodLink RL 15 yX11_init ∈ wt_ := wt_in (i := 155) (by decide +kernel) rfl
theorem lk_X11_1 : Cond.methodLink RX11 1 ⟨"java/lang/Object", "<init>", "()V"⟩ ∈ wt_ := wt_in (i := 158) (by decide +kernel) rfl
theorem kl_X11_17 : Cond.classLink RX11 17 RX1 ∈ wt_ := wt_in (i := 161) (by decide +kernel) rfl
theorem in_X1 : Cond.instantiable RX1 7 ∈ wt_ := wt_in (i := 162) (by decide +kernel) rfl
theorem lk_X11_19 : (RX11, 19, yX1_init, "SlitDrum") ∈ k_nest := by decide +kernel
theorem lk_X1_3 : (RX1, 3, yX6_init, "SlitDrum") ∈ k_nest := by decide +kernel
theorem lk_X6_3 : Cond.methodLink RX6 3 ⟨"java/lang/Object", "<init>", "()V"⟩ ∈ wt_ := wt_in (i := 169) (by decide +kernel) rfl
theorem kl_X11_24 : Cond.classLink RX11 24 RX3 ∈ wt_ := wt_in (i := 200) (by decide +kernel) rfl
theorem in_X3 : Cond.instantiable RX3 5 ∈ wt_ := wt_in (i := 201) (by decide +kernel) rfl
theorem lk_X11_26 : (RX11, 26, yX3_init, "SlitDrum") ∈ k_nest := by decide +kernel
theorem lk_X3_3 : (RX3, 3, yX6_init, "SlitDrum") ∈ k_nest := by decide +kernel
theorem kl_X11_31 : Cond.classLink RX11 31 RX9 ∈ wt_ := wt_in (i := 216) (by decide +kernel) rfl
theorem in_X9 : Cond.instantiable RX9 5 ∈ wt_ := wt_in (i := 217) (by decide +kernel) rfl
theorem lk_X11_33 : (RX11, 33, yX9_init, "SlitDrum") ∈ k_nest := by decide +kernel
theorem lk_X9_3 : (RX9, 3, yX6_init, "SlitDrum") ∈ k_nest := by decide +kernel
theorem kl_X11_38 : Cond.classLink RX11 38 RX2 ∈ wt_ := wt_in (i := 232) (by decide +kernel) rfl
theorem kl_X11_50 : Cond.classLink RX11 50 RX8 ∈ wt_ := wt_in (i := 234) (by decide +kernel) rfl
theorem in_X8 : Cond.instantiable RX8 1 ∈ wt_ := wt_in (i := 236) (by decide +kernel) rfl
theorem lk_X11_59 : Cond.methodLink RX11 59 yX8_init ∈ wt_ := wt_in (i := 237) (by decide +kernel) rfl
theorem lk_X8_3 : Cond.methodLink RX8 3 ⟨"java/lang/Object", "<init>", "()V"⟩ ∈ wt_ := wt_in (i := 240) (by decide +kernel) rfl
theorem kl_X11_72 : Cond.classLink RX11 72 RX7 ∈ wt_ := wt_in (i := 245) (by decide +kernel) rfl
theorem in_X7 : Cond.instantiable RX7 8 ∈ wt_ := wt_in (i := 246) (by decide +kernel) rfl
theorem lk_X11_74 : Cond.methodLink RX11 74 yX7_init ∈ wt_ := wt_in (i := 247) (by decide +kernel) rfl
theorem lk_X7_3 : Cond.methodLink RX7 3 ⟨"java/lang/Object", "<init>", "()V"⟩ ∈ wt_ := wt_in (i := 250) (by decide +kernel) rfl
theorem kl_X7_9 : Cond.classLink RX7 9 RX10 ∈ wt_ := wt_in (i := 251) (by decide +kernel) rfl
theorem in_X10 : Cond.instantiable RX10 4 ∈ wt_ := wt_in (i := 253) (by decide +kernel) rfl
theorem lk_X7_40 : (RX7, 40, yX10_init, "SlitDrum") ∈ k_nest := by decide +kernel
theorem lk_X10_1 : Cond.methodLink RX10 1 ⟨"java/lang/Object", "<init>", "()V"⟩ ∈ wt_ := wt_in (i := 257) (by decide +kernel) rfl
theorem kl_X11_79 : Cond.classLink RX11 79 RX5 ∈ wt_ := wt_in (i := 318) (by decide +kernel) rfl
theorem in_X5 : Cond.instantiable RX5 3 ∈ wt_ := wt_in (i := 319) (by decide +kernel) rfl
theorem lk_X11_81 : Cond.methodLink RX11 81 yX5_init ∈ wt_ := wt_in (i := 320) (by decide +kernel) rfl
theorem lk_X5_3 : Cond.methodLink RX5 3 ⟨"java/lang/Object", "<init>", "()V"⟩ ∈ wt_ := wt_in (i := 323) (by decide +kernel) rfl
theorem kl_X5_9 : Cond.classLink RX5 9 RX7 ∈ wt_ := wt_in (i := 324) (by decide +kernel) rfl
theorem lk_X5_24 : Cond.methodLink RX5 24 yX7_init ∈ wt_ := wt_in (i := 326) (by decide +kernel) rfl
theorem kl_X11_93 : Cond.classLink RX11 93 RX4 ∈ wt_ := wt_in (i := 338) (by decide +kernel) rfl
theorem in_X4 : Cond.instantiable RX4 7 ∈ wt_ := wt_in (i := 339) (by decide +kernel) rfl
theorem lk_X11_95 : (RX11, 95, yX4_init, "SlitDrum") ∈ k_nest := by decide +kernel
theorem lk_X4_3 : Cond.methodLink RX4 3 ⟨"java/lang/Object", "<init>", "()V"⟩ ∈ wt_ := wt_in (i := 343) (by decide +kernel) rfl
theorem kl_X11_100 : Cond.classLink RX11 100 RX0 ∈ wt_ := wt_in (i := 369) (by decide +kernel) rfl
theorem in_X0 : Cond.instantiable RX0 10 ∈ wt_ := wt_in (i := 371) (by decide +kernel) rfl
theorem lk_X11_110 : (RX11, 110, yX0_init, "SlitDrum") ∈ k_nest := by decide +kernel
theorem lk_X0_3 : Cond.methodLink RX0 3 ⟨"java/lang/Object", "<init>", "()V"⟩ ∈ wt_ := wt_in (i := 375) (by decide +kernel) rfl
theorem kl_X0_18 : Cond.classLink RX0 18 RX8 ∈ wt_ := wt_in (i := 376) (by decide +kernel) rfl
theorem lk_X0_20 : Cond.methodLink RX0 20 yX8_init ∈ wt_ := wt_in (i := 377) (by decide +kernel) rfl
theorem lk_L_19 : Cond.methodLink RL 19 yX11_feed ∈ wt_ := wt_in (i := 470) (by decide +kernel) rfl
theorem lk_X11_111 : Cond.methodLink RX11 111 yX11_bytesIn ∈ wt_ := wt_in (i := 474) (by decide +kernel) rfl
theorem lk_X11_115 : Cond.methodLink RX11 115 yX11_record ∈ wt_ := wt_in (i := 477) (by decide +kernel) rfl
theorem lk_L_24 : Cond.methodLink RL 24 yX11_end ∈ wt_ := wt_in (i := 481) (by decide +kernel) rfl
theorem lk_L_29 : Cond.methodLink RL 29 yX11_fault ∈ wt_ := wt_in (i := 485) (by decide +kernel) rfl
theorem lk_X11_119 : Cond.methodLink RX11 119 yX11_readerOf ∈ wt_ := wt_in (i := 489) (by decide +kernel) rfl
theorem lk_X11_142 : Cond.methodLink RX11 142 yX6_start ∈ wt_ := wt_in (i := 493) (by decide +kernel) rfl
theorem sa_495 : Cond.sameMethod "SlitDrum$Reader" "SlitDrum$Reader" "start" "([II)V" ∈ wt_ := wt_in (i := 495) (by decide +kernel) rfl
theorem lk_X6_22 : Cond.methodLink RX6 22 yJ9_min_7cf53 ∈ wt_ := wt_in (i := 500) (by decide +kernel) rfl
theorem lk_X11_123 : Cond.methodLink RX11 123 ⟨"SlitDrum$Reader", "isWhole", "()Z"⟩ ∈ wt_ := wt_in (i := 503) (by decide +kernel) rfl
theorem sa_505 : Cond.sameMethod "SlitDrum$Reader" "SlitDrum$Reader" "isWhole" "()Z" ∈ wt_ := wt_in (i := 505) (by decide +kernel) rfl
theorem se_506 : Cond.selects "SlitDrum$LanternReader" ⟨"SlitDrum$Reader", "isWhole", "()Z"⟩ ⟨"SlitDrum$LanternReader", "isWhole", "()Z"⟩ ∈ wt_ := wt_in (i := 506) (by decide +kernel) rfl
theorem lk_X1_29 : Cond.methodLink RX1 29 ⟨"java/lang/System", "arraycopy", "(Ljava/lang/Object;ILjava/lang/Object;II)V"⟩ ∈ wt_ := wt_in (i := 511) (by decide +kernel) rfl
theorem lk_X1_35 : Cond.methodLink RX1 35 yX1_isClause ∈ wt_ := wt_in (i := 514) (by decide +kernel) rfl
theorem lk_X1_39 : Cond.methodLink RX1 39 ⟨"SlitDrum$LanternReader", "takes", "(I)Z"⟩ ∈ wt_ := wt_in (i := 518) (by decide +kernel) rfl
theorem sa_519 : Cond.sameMethod "SlitDrum$LanternReader" "SlitDrum$Reader" "takes" "(I)Z" ∈ wt_ := wt_in (i := 519) (by decide +kernel) rfl
theorem se_521 : Cond.selects "SlitDrum$LanternReader" ⟨"SlitDrum$LanternReader", "takes", "(I)Z"⟩ ⟨"SlitDrum$Reader", "takes", "(I)Z"⟩ ∈ wt_ := wt_in (i := 521) (by decide +kernel) rfl
theorem lk_X6_28 : Cond.methodLink RX6 28 yX6_nextSign ∈ wt_ := wt_in (i := 524) (by decide +kernel) rfl
theorem sa_526 : Cond.sameMethod "SlitDrum$Reader" "SlitDrum$Reader" "nextSign" "()I" ∈ wt_ := wt_in (i := 526) (by decide +kernel) rfl
theorem lk_X1_55 : Cond.methodLink RX1 55 yX1_areItems ∈ wt_ := wt_in (i := 536) (by decide +kernel) rfl
theorem lk_X1_70 : Cond.methodLink RX1 70 yJ0_length_8abf5 ∈ wt_ := wt_in (i := 540) (by decide +kernel) rfl
theorem lk_J0_335 : Cond.methodLink RJ0 335 yJ0_coder_7d493 ∈ wt_ := wt_in (i := 544) (by decide +kernel) rfl
theorem lk_X1_43 : Cond.methodLink RX1 43 ⟨"SlitDrum$LanternReader", "nextSign", "()I"⟩ ∈ wt_ := wt_in (i := 550) (by decide +kernel) rfl
theorem sa_551 : Cond.sameMethod "SlitDrum$LanternReader" "SlitDrum$Reader" "nextSign" "()I" ∈ wt_ := wt_in (i := 551) (by decide +kernel) rfl
theorem se_553 : Cond.selects "SlitDrum$LanternReader" ⟨"SlitDrum$LanternReader", "nextSign", "()I"⟩ ⟨"SlitDrum$Reader", "nextSign", "()I"⟩ ∈ wt_ := wt_in (i := 553) (by decide +kernel) rfl
theorem lk_X1_75 : Cond.methodLink RX1 75 ⟨"SlitDrum$LanternReader", "letterOf", "(Ljava/lang/String;I)I"⟩ ∈ wt_ := wt_in (i := 554) (by decide +kernel) rfl
theorem sa_555 : Cond.sameMethod "SlitDrum$LanternReader" "SlitDrum$Reader" "letterOf" "(Ljava/lang/String;I)I" ∈ wt_ := wt_in (i := 555) (by decide +kernel) rfl
theorem lk_X6_32 : Cond.methodLink RX6 32 yJ0_indexOf_0f7a4 ∈ wt_ := wt_in (i := 558) (by decide +kernel) rfl
theorem lk_J0_633 : Cond.methodLink RJ0 633 yJ0_indexOf_7cf53 ∈ wt_ := wt_in (i := 562) (by decide +kernel) rfl
theorem lk_J0_492 : Cond.methodLink RJ0 492 yJ0_isLatin1_aae02 ∈ wt_ := wt_in (i := 566) (by decide +kernel) rfl
theorem lk_J0_505 : Cond.methodLink RJ0 505 yJ0_length_8abf5 ∈ wt_ := wt_in (i := 570) (by decide +kernel) rfl
theorem lk_J0_637 : Cond.methodLink RJ0 637 yJ1_indexOf_4cfef ∈ wt_ := wt_in (i := 571) (by decide +kernel) rfl
theorem lk_J1_88 : Cond.methodLink RJ1 88 yJ1_canEncode_9a6ad ∈ wt_ := wt_in (i := 574) (by decide +kernel) rfl
theorem lk_J1_92 : Cond.methodLink RJ1 92 yJ9_max_7cf53 ∈ wt_ := wt_in (i := 577) (by decide +kernel) rfl
theorem lk_J1_38 : Cond.methodLink RJ1 38 yJ9_min_7cf53 ∈ wt_ := wt_in (i := 580) (by decide +kernel) rfl
theorem lk_J1_95 : Cond.methodLink RJ1 95 yJ1_indexOfChar_4cfef ∈ wt_ := wt_in (i := 581) (by decide +kernel) rfl
theorem lk_J0_640 : Cond.methodLink RJ0 640 yJ2_indexOf_4cfef ∈ wt_ := wt_in (i := 584) (by decide +kernel) rfl
theorem lk_J2_224 : Cond.methodLink RJ2 224 yJ9_max_7cf53 ∈ wt_ := wt_in (i := 587) (by decide +kernel) rfl
theorem lk_J2_183 : Cond.methodLink RJ2 183 yJ9_min_7cf53 ∈ wt_ := wt_in (i := 588) (by decide +kernel) rfl
theorem kc_J2_227 : Cond.constant RJ2 227 (65536) ∈ wt_ := wt_in (i := 589) (by decide +kernel) rfl
theorem lk_J2_228 : Cond.methodLink RJ2 228 yJ2_indexOfChar_4cfef ∈ wt_ := wt_in (i := 590) (by decide +kernel) rfl
theorem lk_J2_96 : Cond.methodLink RJ2 96 yJ2_checkBoundsBeginEnd_d044e ∈ wt_ := wt_in (i := 593) (by decide +kernel) rfl
theorem lk_J2_48 : Cond.methodLink RJ2 48 yJ2_length_9d52b ∈ wt_ := wt_in (i := 596) (by decide +kernel) rfl
theorem lk_J2_241 : Cond.methodLink RJ2 241 yJ0_checkBoundsBeginEnd_23922 ∈ wt_ := wt_in (i := 599) (by decide +kernel) rfl
theorem lk_J0_1062 : Cond.methodLink RJ0 1062 yJ3_checkFromToIndex_8c36e ∈ wt_ := wt_in (i := 604) (by decide +kernel) rfl
theorem lk_J2_244 : Cond.methodLink RJ2 244 yJ2_indexOfCharUnsafe_4cfef ∈ wt_ := wt_in (i := 607) (by decide +kernel) rfl
theorem lk_J2_71 : Cond.methodLink RJ2 71 yJ2_getChar_3b067 ∈ wt_ := wt_in (i := 610) (by decide +kernel) rfl
theorem lk_J2_232 : Cond.methodLink RJ2 232 yJ2_indexOfSupplementary_4cfef ∈ wt_ := wt_in (i := 619) (by decide +kernel) rfl
theorem lk_J2_164 : Cond.methodLink RJ2 164 yJ11_isValidCodePoint_9a6ad ∈ wt_ := wt_in (i := 622) (by decide +kernel) rfl
theorem lk_J2_157 : Cond.methodLink RJ2 157 yJ11_highSurrogate_5068e ∈ wt_ := wt_in (i := 625) (by decide +kernel) rfl
theorem kc_J11_110 : Cond.constant RJ11 110 (55232) ∈ wt_ := wt_in (i := 628) (by decide +kernel) rfl
theorem lk_J2_161 : Cond.methodLink RJ2 161 yJ11_lowSurrogate_5068e ∈ wt_ := wt_in (i := 629) (by decide +kernel) rfl
theorem kc_J11_76 : Cond.constant RJ11 76 (56320) ∈ wt_ := wt_in (i := 632) (by decide +kernel) rfl
theorem lk_X1_82 : Cond.methodLink RX1 82 ⟨"SlitDrum$LanternReader", "number", "(III)I"⟩ ∈ wt_ := wt_in (i := 633) (by decide +kernel) rfl
theorem sa_634 : Cond.sameMethod "SlitDrum$LanternReader" "SlitDrum$Reader" "number" "(III)I" ∈ wt_ := wt_in (i := 634) (by decide +kernel) rfl
theorem se_636 : Cond.selects "SlitDrum$LanternReader" ⟨"SlitDrum$LanternReader", "number", "(III)I"⟩ ⟨"SlitDrum$Reader", "number", "(III)I"⟩ ∈ wt_ := wt_in (i := 636) (by decide +kernel) rfl
theorem se_646 : Cond.selects "SlitDrum$LawReader" ⟨"SlitDrum$Reader", "isWhole", "()Z"⟩ ⟨"SlitDrum$LawReader", "isWhole", "()Z"⟩ ∈ wt_ := wt_in (i := 646) (by decide +kernel) rfl
theorem lk_X3_19 : Cond.methodLink RX3 19 yX3_isClause ∈ wt_ := wt_in (i := 649) (by decide +kernel) rfl
theorem lk_X3_23 : Cond.methodLink RX3 23 ⟨"SlitDrum$LawReader", "takes", "(I)Z"⟩ ∈ wt_ := wt_in (i := 653) (by decide +kernel) rfl
theorem sa_654 : Cond.sameMethod "SlitDrum$LawReader" "SlitDrum$Reader" "takes" "(I)Z" ∈ wt_ := wt_in (i := 654) (by decide +kernel) rfl
theorem se_655 : Cond.selects "SlitDrum$LawReader" ⟨"SlitDrum$LawReader", "takes", "(I)Z"⟩ ⟨"SlitDrum$Reader", "takes", "(I)Z"⟩ ∈ wt_ := wt_in (i := 655) (by decide +kernel) rfl
theorem lk_X3_27 : Cond.methodLink RX3 27 ⟨"SlitDrum$LawReader", "nextSign", "()I"⟩ ∈ wt_ := wt_in (i := 656) (by decide +kernel) rfl
theorem sa_657 : Cond.sameMethod "SlitDrum$LawReader" "SlitDrum$Reader" "nextSign" "()I" ∈ wt_ := wt_in (i := 657) (by decide +kernel) rfl
theorem se_658 : Cond.selects "SlitDrum$LawReader" ⟨"SlitDrum$LawReader", "nextSign", "()I"⟩ ⟨"SlitDrum$Reader", "nextSign", "()I"⟩ ∈ wt_ := wt_in (i := 658) (by decide +kernel) rfl
theorem lk_X3_37 : Cond.methodLink RX3 37 yX3_isCondition ∈ wt_ := wt_in (i := 659) (by decide +kernel) rfl
theorem lk_X3_64 : Cond.methodLink RX3 64 yX3_isTruth ∈ wt_ := wt_in (i := 663) (by decide +kernel) rfl
theorem lk_X3_71 : Cond.methodLink RX3 71 yX3_isUnit ∈ wt_ := wt_in (i := 667) (by decide +kernel) rfl
theorem lk_X3_43 : Cond.methodLink RX3 43 yX3_isSum ∈ wt_ := wt_in (i := 671) (by decide +kernel) rfl
theorem lk_X3_77 : Cond.methodLink RX3 77 yX3_isTerm ∈ wt_ := wt_in (i := 675) (by decide +kernel) rfl
theorem lk_X3_80 : Cond.methodLink RX3 80 yX3_isAtom ∈ wt_ := wt_in (i := 679) (by decide +kernel) rfl
theorem lk_X3_85 : Cond.methodLink RX3 85 ⟨"SlitDrum$LawReader", "letterOf", "(Ljava/lang/String;I)I"⟩ ∈ wt_ := wt_in (i := 684) (by decide +kernel) rfl
theorem sa_685 : Cond.sameMethod "SlitDrum$LawReader" "SlitDrum$Reader" "letterOf" "(Ljava/lang/String;I)I" ∈ wt_ := wt_in (i := 685) (by decide +kernel) rfl
theorem lk_X3_89 : Cond.methodLink RX3 89 yX2_letterCode ∈ wt_ := wt_in (i := 686) (by decide +kernel) rfl
theorem lk_X3_60 : Cond.methodLink RX3 60 yX3_write ∈ wt_ := wt_in (i := 689) (by decide +kernel) rfl
theorem lk_X3_92 : Cond.methodLink RX3 92 ⟨"SlitDrum$LawReader", "number", "(III)I"⟩ ∈ wt_ := wt_in (i := 693) (by decide +kernel) rfl
theorem sa_694 : Cond.sameMethod "SlitDrum$LawReader" "SlitDrum$Reader" "number" "(III)I" ∈ wt_ := wt_in (i := 694) (by decide +kernel) rfl
theorem se_695 : Cond.selects "SlitDrum$LawReader" ⟨"SlitDrum$LawReader", "number", "(III)I"⟩ ⟨"SlitDrum$Reader", "number", "(III)I"⟩ ∈ wt_ := wt_in (i := 695) (by decide +kernel) rfl
theorem lk_X3_67 : Cond.methodLink RX3 67 yX2_signCode ∈ wt_ := wt_in (i := 696) (by decide +kernel) rfl
theorem lk_X3_49 : Cond.methodLink RX3 49 yX3_isCompared ∈ wt_ := wt_in (i := 699) (by decide +kernel) rfl
theorem lk_X3_46 : Cond.methodLink RX3 46 yX3_isComparison ∈ wt_ := wt_in (i := 703) (by decide +kernel) rfl
theorem lk_X3_52 : Cond.methodLink RX3 52 yX3_areMoreUnits ∈ wt_ := wt_in (i := 706) (by decide +kernel) rfl
theorem lk_X3_55 : Cond.methodLink RX3 55 yX3_areMoreTruths ∈ wt_ := wt_in (i := 710) (by decide +kernel) rfl
theorem lk_X3_40 : Cond.methodLink RX3 40 yX3_isAnswerIf ∈ wt_ := wt_in (i := 714) (by decide +kernel) rfl
theorem se_718 : Cond.selects "SlitDrum$StripReader" ⟨"SlitDrum$Reader", "isWhole", "()Z"⟩ ⟨"SlitDrum$StripReader", "isWhole", "()Z"⟩ ∈ wt_ := wt_in (i := 718) (by decide +kernel) rfl
theorem lk_X9_19 : Cond.methodLink RX9 19 ⟨"SlitDrum$StripReader", "nextSign", "()I"⟩ ∈ wt_ := wt_in (i := 721) (by decide +kernel) rfl
theorem sa_722 : Cond.sameMethod "SlitDrum$StripReader" "SlitDrum$Reader" "nextSign" "()I" ∈ wt_ := wt_in (i := 722) (by decide +kernel) rfl
theorem se_723 : Cond.selects "SlitDrum$StripReader" ⟨"SlitDrum$StripReader", "nextSign", "()I"⟩ ⟨"SlitDrum$Reader", "nextSign", "()I"⟩ ∈ wt_ := wt_in (i := 723) (by decide +kernel) rfl
theorem lk_X9_26 : Cond.methodLink RX9 26 yX9_pictureOf ∈ wt_ := wt_in (i := 724) (by decide +kernel) rfl
theorem lk_X9_30 : Cond.methodLink RX9 30 yX9_add ∈ wt_ := wt_in (i := 727) (by decide +kernel) rfl
theorem lk_L_34 : Cond.methodLink RL 34 yX11_text ∈ wt_ := wt_in (i := 732) (by decide +kernel) rfl
theorem lk_X11_132 : Cond.methodLink RX11 132 yX11_tellLantern ∈ wt_ := wt_in (i := 736) (by decide +kernel) rfl
theorem lk_X11_146 : Cond.methodLink RX11 146 yX1_tell ∈ wt_ := wt_in (i := 740) (by decide +kernel) rfl
theorem lk_X11_162 : Cond.methodLink RX11 162 yX11_stripOf ∈ wt_ := wt_in (i := 744) (by decide +kernel) rfl
theorem lk_X11_221 : Cond.methodLink RX11 221 yX11_isStrip ∈ wt_ := wt_in (i := 748) (by decide +kernel) rfl
theorem lk_X11_166 : Cond.methodLink RX11 166 yX8_size ∈ wt_ := wt_in (i := 752) (by decide +kernel) rfl
theorem lk_X11_169 : Cond.methodLink RX11 169 yX11_round ∈ wt_ := wt_in (i := 756) (by decide +kernel) rfl
theorem lk_X11_421 : Cond.methodLink RX11 421 yJ9_floorMod_7cf53 ∈ wt_ := wt_in (i := 759) (by decide +kernel) rfl
theorem lk_X11_173 : Cond.methodLink RX11 173 yX5_clear ∈ wt_ := wt_in (i := 762) (by decide +kernel) rfl
theorem lk_X11_176 : Cond.methodLink RX11 176 yX4_clear ∈ wt_ := wt_in (i := 766) (by decide +kernel) rfl
theorem lk_X11_136 : Cond.methodLink RX11 136 yX11_tellLaw ∈ wt_ := wt_in (i := 770) (by decide +kernel) rfl
theorem in_X2 : Cond.instantiable RX2 3 ∈ wt_ := wt_in (i := 774) (by decide +kernel) rfl
theorem lk_X11_177 : Cond.methodLink RX11 177 yX3_written ∈ wt_ := wt_in (i := 775) (by decide +kernel) rfl
theorem lk_X3_31 : Cond.methodLink RX3 31 yJ7_copyOf_59c91 ∈ wt_ := wt_in (i := 779) (by decide +kernel) rfl
theorem lk_J7_316 : Cond.methodLink RJ7 316 ⟨"[I", "clone", "()Ljava/lang/Object;"⟩ ∈ wt_ := wt_in (i := 782) (by decide +kernel) rfl
theorem sa_783 : Cond.sameMethod "[I" "java/lang/Object" "clone" "()Ljava/lang/Object;" ∈ wt_ := wt_in (i := 783) (by decide +kernel) rfl
theorem se_786 : Cond.selects "[I" ⟨"[I", "clone", "()Ljava/lang/Object;"⟩ ⟨"java/lang/Object", "clone", "()Ljava/lang/Object;"⟩ ∈ wt_ := wt_in (i := 786) (by decide +kernel) rfl
theorem kl_J7_317 : Cond.classLink RJ7 317 "[I" ∈ wt_ := wt_in (i := 788) (by decide +kernel) rfl
theorem lk_J7_304 : Cond.methodLink RJ7 304 yJ9_min_7cf53 ∈ wt_ := wt_in (i := 789) (by decide +kernel) rfl
theorem lk_J7_150 : Cond.methodLink RJ7 150 ⟨"java/lang/System", "arraycopy", "(Ljava/lang/Object;ILjava/lang/Object;II)V"⟩ ∈ wt_ := wt_in (i := 790) (by decide +kernel) rfl
theorem lk_X11_181 : Cond.methodLink RX11 181 yX2_init ∈ wt_ := wt_in (i := 791) (by decide +kernel) rfl
theorem lk_X2_1 : Cond.methodLink RX2 1 ⟨"java/lang/Object", "<init>", "()V"⟩ ∈ wt_ := wt_in (i := 794) (by decide +kernel) rfl
theorem lk_X11_139 : Cond.methodLink RX11 139 yX11_tellStrip ∈ wt_ := wt_in (i := 805) (by decide +kernel) rfl
theorem lk_X11_182 : Cond.methodLink RX11 182 yX9_written ∈ wt_ := wt_in (i := 809) (by decide +kernel) rfl
theorem lk_X9_34 : Cond.methodLink RX9 34 yJ7_copyOf_59c91 ∈ wt_ := wt_in (i := 813) (by decide +kernel) rfl
theorem lk_L_38 : Cond.methodLink RL 38 yX11_rule ∈ wt_ := wt_in (i := 814) (by decide +kernel) rfl
theorem lk_X11_183 : Cond.methodLink RX11 183 yX11_isLit ∈ wt_ := wt_in (i := 818) (by decide +kernel) rfl
theorem lk_L_52 : Cond.methodLink RL 52 yX11_picture ∈ wt_ := wt_in (i := 822) (by decide +kernel) rfl
theorem lk_X11_224 : Cond.methodLink RX11 224 yX8_shownAt ∈ wt_ := wt_in (i := 826) (by decide +kernel) rfl
theorem lk_X8_15 : (RX8, 15, yX11_round, "SlitDrum") ∈ k_nest := by decide +kernel
theorem lk_L_56 : Cond.methodLink RL 56 yX11_law ∈ wt_ := wt_in (i := 831) (by decide +kernel) rfl
theorem lk_L_60 : Cond.methodLink RL 60 yX11_touch ∈ wt_ := wt_in (i := 835) (by decide +kernel) rfl
theorem lk_L_64 : Cond.methodLink RL 64 yX11_ticks ∈ wt_ := wt_in (i := 839) (by decide +kernel) rfl
theorem lk_X11_227 : Cond.methodLink RX11 227 yX11_refused ∈ wt_ := wt_in (i := 843) (by decide +kernel) rfl
theorem lk_X11_233 : Cond.methodLink RX11 233 yX5_keep ∈ wt_ := wt_in (i := 847) (by decide +kernel) rfl
theorem lk_X5_25 : (RX5, 25, yX11_round, "SlitDrum") ∈ k_nest := by decide +kernel
theorem lk_X5_29 : Cond.methodLink RX5 29 yX7_copyFrom ∈ wt_ := wt_in (i := 852) (by decide +kernel) rfl
theorem lk_X7_41 : Cond.methodLink RX7 41 yX10_copyFrom ∈ wt_ := wt_in (i := 856) (by decide +kernel) rfl
theorem lk_X7_45 : Cond.methodLink RX7 45 ⟨"java/lang/System", "arraycopy", "(Ljava/lang/Object;ILjava/lang/Object;II)V"⟩ ∈ wt_ := wt_in (i := 860) (by decide +kernel) rfl
theorem lk_X5_33 : Cond.methodLink RX5 33 yJ9_min_7cf53 ∈ wt_ := wt_in (i := 861) (by decide +kernel) rfl
theorem lk_X11_236 : Cond.methodLink RX11 236 yX11_tickOnce ∈ wt_ := wt_in (i := 862) (by decide +kernel) rfl
theorem lk_X11_256 : Cond.methodLink RX11 256 yX11_nextPlace ∈ wt_ := wt_in (i := 866) (by decide +kernel) rfl
theorem lk_X11_300 : Cond.methodLink RX11 300 yX11_courseOf ∈ wt_ := wt_in (i := 870) (by decide +kernel) rfl
theorem lk_X11_306 : Cond.methodLink RX11 306 yX11_lawNow ∈ wt_ := wt_in (i := 874) (by decide +kernel) rfl
theorem lk_X11_310 : Cond.methodLink RX11 310 yX0_set ∈ wt_ := wt_in (i := 878) (by decide +kernel) rfl
theorem lk_X0_50 : Cond.methodLink RX0 50 yX10_velocity ∈ wt_ := wt_in (i := 882) (by decide +kernel) rfl
theorem lk_X0_58 : Cond.methodLink RX0 58 yX8_size ∈ wt_ := wt_in (i := 886) (by decide +kernel) rfl
theorem lk_X11_303 : Cond.methodLink RX11 303 yX0_movedFrom ∈ wt_ := wt_in (i := 887) (by decide +kernel) rfl
theorem lk_X0_61 : Cond.methodLink RX0 61 yX8_shownAt ∈ wt_ := wt_in (i := 891) (by decide +kernel) rfl
theorem lk_X0_65 : (RX0, 65, yX11_round, "SlitDrum") ∈ k_nest := by decide +kernel
theorem lk_X0_69 : Cond.methodLink RX0 69 yX2_worth ∈ wt_ := wt_in (i := 893) (by decide +kernel) rfl
theorem lk_X2_20 : Cond.methodLink RX2 20 yX2_pull ∈ wt_ := wt_in (i := 897) (by decide +kernel) rfl
theorem lk_X2_24 : Cond.methodLink RX2 24 yJ9_max_7cf53 ∈ wt_ := wt_in (i := 901) (by decide +kernel) rfl
theorem lk_X2_30 : Cond.methodLink RX2 30 yX2_pile ∈ wt_ := wt_in (i := 902) (by decide +kernel) rfl
theorem lk_X2_34 : Cond.methodLink RX2 34 yX2_joined ∈ wt_ := wt_in (i := 906) (by decide +kernel) rfl
theorem kc_X2_38 : Cond.constant RX2 38 (-1000000) ∈ wt_ := wt_in (i := 909) (by decide +kernel) rfl
theorem kc_X2_39 : Cond.constant RX2 39 (1000000) ∈ wt_ := wt_in (i := 910) (by decide +kernel) rfl
theorem lk_X2_40 : (RX2, 40, yX11_within, "SlitDrum") ∈ k_nest := by decide +kernel
theorem lk_X11_424 : Cond.methodLink RX11 424 yJ9_min_f86c9 ∈ wt_ := wt_in (i := 914) (by decide +kernel) rfl
theorem lk_X11_427 : Cond.methodLink RX11 427 yJ9_max_f86c9 ∈ wt_ := wt_in (i := 917) (by decide +kernel) rfl
theorem lk_X0_75 : (RX0, 75, yX11_within, "SlitDrum") ∈ k_nest := by decide +kernel
theorem lk_X11_259 : Cond.methodLink RX11 259 yX11_lookOnce ∈ wt_ := wt_in (i := 921) (by decide +kernel) rfl
theorem lk_X11_215 : Cond.methodLink RX11 215 yX11_shown ∈ wt_ := wt_in (i := 925) (by decide +kernel) rfl
theorem lk_X11_262 : Cond.methodLink RX11 262 yX7_addRow ∈ wt_ := wt_in (i := 929) (by decide +kernel) rfl
theorem lk_X7_51 : (RX7, 51, yX11_round, "SlitDrum") ∈ k_nest := by decide +kernel
theorem lk_X11_265 : Cond.methodLink RX11 265 yX11_allShowOne ∈ wt_ := wt_in (i := 934) (by decide +kernel) rfl
theorem lk_L_68 : Cond.methodLink RL 68 yX11_flash ∈ wt_ := wt_in (i := 938) (by decide +kernel) rfl
theorem lk_L_72 : Cond.methodLink RL 72 yX11_speed ∈ wt_ := wt_in (i := 942) (by decide +kernel) rfl
theorem lk_X11_195 : Cond.methodLink RX11 195 yX11_isWheel ∈ wt_ := wt_in (i := 946) (by decide +kernel) rfl
theorem lk_L_76 : Cond.methodLink RL 76 yX11_about ∈ wt_ := wt_in (i := 950) (by decide +kernel) rfl
theorem lk_L_80 : Cond.methodLink RL 80 yX11_push ∈ wt_ := wt_in (i := 954) (by decide +kernel) rfl
theorem lk_X11_239 : Cond.methodLink RX11 239 yX11_shove ∈ wt_ := wt_in (i := 958) (by decide +kernel) rfl
theorem lk_L_84 : Cond.methodLink RL 84 yX11_puts ∈ wt_ := wt_in (i := 962) (by decide +kernel) rfl
theorem lk_L_88 : Cond.methodLink RL 88 yX11_oil ∈ wt_ := wt_in (i := 966) (by decide +kernel) rfl
theorem lk_L_92 : Cond.methodLink RL 92 yX11_give ∈ wt_ := wt_in (i := 970) (by decide +kernel) rfl
theorem lk_L_98 : Cond.methodLink RL 98 yX11_years ∈ wt_ := wt_in (i := 974) (by decide +kernel) rfl
theorem lk_X11_243 : Cond.methodLink RX11 243 yX11_meddle ∈ wt_ := wt_in (i := 978) (by decide +kernel) rfl
theorem lk_X11_268 : Cond.methodLink RX11 268 yX11_draw ∈ wt_ := wt_in (i := 982) (by decide +kernel) rfl
theorem kc_X11_276 : Cond.constantLong RX11 276 (6364136223846793005) ∈ wt_ := wt_in (i := 986) (by decide +kernel) rfl
theorem kc_X11_278 : Cond.constantLong RX11 278 (1442695040888963407) ∈ wt_ := wt_in (i := 987) (by decide +kernel) rfl
theorem lk_X11_271 : Cond.methodLink RX11 271 yJ9_min_7cf53 ∈ wt_ := wt_in (i := 988) (by decide +kernel) rfl
theorem lk_L_103 : Cond.methodLink RL 103 yX11_status ∈ wt_ := wt_in (i := 989) (by decide +kernel) rfl
theorem lk_L_107 : Cond.methodLink RL 107 yX11_undo ∈ wt_ := wt_in (i := 993) (by decide +kernel) rfl
theorem lk_X11_246 : Cond.methodLink RX11 246 yX5_bringBack ∈ wt_ := wt_in (i := 997) (by decide +kernel) rfl
theorem lk_L_111 : Cond.methodLink RL 111 yX11_log ∈ wt_ := wt_in (i := 1001) (by decide +kernel) rfl
theorem lk_X11_250 : Cond.methodLink RX11 250 yX7_rowCount ∈ wt_ := wt_in (i := 1005) (by decide +kernel) rfl
theorem lk_X7_55 : Cond.methodLink RX7 55 yJ9_min_7cf53 ∈ wt_ := wt_in (i := 1009) (by decide +kernel) rfl
theorem lk_X11_253 : Cond.methodLink RX11 253 yX7_rowBefore ∈ wt_ := wt_in (i := 1010) (by decide +kernel) rfl
theorem lk_L_115 : Cond.methodLink RL 115 yX11_at ∈ wt_ := wt_in (i := 1014) (by decide +kernel) rfl
theorem lk_X11_280 : Cond.methodLink RX11 280 yX11_traced ∈ wt_ := wt_in (i := 1018) (by decide +kernel) rfl
theorem lk_X11_314 : Cond.methodLink RX11 314 yX0_trace ∈ wt_ := wt_in (i := 1022) (by decide +kernel) rfl
theorem lk_X0_79 : Cond.methodLink RX0 79 yJ7_fill_53178 ∈ wt_ := wt_in (i := 1026) (by decide +kernel) rfl
theorem lk_X0_85 : Cond.methodLink RX0 85 yX0_movedFrom ∈ wt_ := wt_in (i := 1029) (by decide +kernel) rfl
theorem lk_X11_284 : Cond.methodLink RX11 284 yX0_shownAfter ∈ wt_ := wt_in (i := 1030) (by decide +kernel) rfl
theorem lk_X0_88 : Cond.methodLink RX0 88 yX0_placeAfter ∈ wt_ := wt_in (i := 1034) (by decide +kernel) rfl
theorem lk_L_119 : Cond.methodLink RL 119 yX11_seems ∈ wt_ := wt_in (i := 1038) (by decide +kernel) rfl
theorem kc_X11_287 : Cond.constant RX11 287 (-1000000) ∈ wt_ := wt_in (i := 1042) (by decide +kernel) rfl
theorem lk_X11_288 : Cond.methodLink RX11 288 yX0_placeAfter ∈ wt_ := wt_in (i := 1043) (by decide +kernel) rfl
theorem lk_L_123 : Cond.methodLink RL 123 yX11_stands ∈ wt_ := wt_in (i := 1044) (by decide +kernel) rfl
theorem lk_X11_291 : Cond.methodLink RX11 291 yX0_isStillBy ∈ wt_ := wt_in (i := 1048) (by decide +kernel) rfl
theorem lk_X0_91 : Cond.methodLink RX0 91 yX0_isHomeAfter ∈ wt_ := wt_in (i := 1052) (by decide +kernel) rfl
theorem lk_L_127 : Cond.methodLink RL 127 yX11_together ∈ wt_ := wt_in (i := 1056) (by decide +kernel) rfl
theorem lk_X11_294 : Cond.methodLink RX11 294 yX11_traceAll ∈ wt_ := wt_in (i := 1060) (by decide +kernel) rfl
theorem lk_L_131 : Cond.methodLink RL 131 yX11_again ∈ wt_ := wt_in (i := 1064) (by decide +kernel) rfl
theorem lk_X11_297 : Cond.methodLink RX11 297 yX0_isHomeAfter ∈ wt_ := wt_in (i := 1068) (by decide +kernel) rfl
theorem lk_L_135 : Cond.methodLink RL 135 yX11_meets ∈ wt_ := wt_in (i := 1069) (by decide +kernel) rfl
theorem lk_L_139 : Cond.methodLink RL 139 yX11_reads ∈ wt_ := wt_in (i := 1073) (by decide +kernel) rfl
theorem lk_L_143 : Cond.methodLink RL 143 yX11_period ∈ wt_ := wt_in (i := 1077) (by decide +kernel) rfl
theorem lk_X11_317 : Cond.methodLink RX11 317 yX8_leastPeriod ∈ wt_ := wt_in (i := 1081) (by decide +kernel) rfl
theorem lk_X8_19 : Cond.methodLink RX8 19 yX8_size ∈ wt_ := wt_in (i := 1085) (by decide +kernel) rfl
theorem lk_X8_23 : Cond.methodLink RX8 23 yX8_isRow ∈ wt_ := wt_in (i := 1086) (by decide +kernel) rfl
theorem lk_X8_27 : Cond.methodLink RX8 27 yX8_shownAt ∈ wt_ := wt_in (i := 1090) (by decide +kernel) rfl
theorem lk_L_147 : Cond.methodLink RL 147 yX11_least ∈ wt_ := wt_in (i := 1091) (by decide +kernel) rfl
theorem lk_X11_320 : Cond.methodLink RX11 320 yX8_leastTurning ∈ wt_ := wt_in (i := 1095) (by decide +kernel) rfl
theorem lk_X8_31 : Cond.methodLink RX8 31 yX8_compareRows ∈ wt_ := wt_in (i := 1099) (by decide +kernel) rfl
theorem lk_X8_35 : Cond.methodLink RX8 35 yJ6_compare_7cf53 ∈ wt_ := wt_in (i := 1103) (by decide +kernel) rfl
theorem lk_L_151 : Cond.methodLink RL 151 yX11_alike ∈ wt_ := wt_in (i := 1106) (by decide +kernel) rfl
theorem lk_X11_323 : Cond.methodLink RX11 323 yX8_turningTo ∈ wt_ := wt_in (i := 1110) (by decide +kernel) rfl
theorem lk_L_156 : Cond.methodLink RL 156 yX11_mirror ∈ wt_ := wt_in (i := 1114) (by decide +kernel) rfl
theorem lk_L_160 : Cond.methodLink RL 160 yX11_rows ∈ wt_ := wt_in (i := 1118) (by decide +kernel) rfl
theorem lk_X11_327 : Cond.methodLink RX11 327 yX8_unlikeRows ∈ wt_ := wt_in (i := 1122) (by decide +kernel) rfl
theorem lk_L_164 : Cond.methodLink RL 164 yX11_kinds ∈ wt_ := wt_in (i := 1126) (by decide +kernel) rfl
theorem lk_X11_330 : Cond.methodLink RX11 330 yX11_commonDivisor ∈ wt_ := wt_in (i := 1130) (by decide +kernel) rfl
theorem lk_X11_333 : Cond.methodLink RX11 333 yX11_power ∈ wt_ := wt_in (i := 1133) (by decide +kernel) rfl
theorem lk_X11_337 : Cond.methodLink RX11 337 yX11_pairsOver ∈ wt_ := wt_in (i := 1136) (by decide +kernel) rfl
theorem lk_L_168 : Cond.methodLink RL 168 yX11_noted ∈ wt_ := wt_in (i := 1139) (by decide +kernel) rfl
theorem lk_X11_340 : Cond.methodLink RX11 340 yX4_add ∈ wt_ := wt_in (i := 1143) (by decide +kernel) rfl
theorem lk_L_172 : Cond.methodLink RL 172 yX11_fits ∈ wt_ := wt_in (i := 1147) (by decide +kernel) rfl
theorem lk_X11_344 : Cond.methodLink RX11 344 yX4_find ∈ wt_ := wt_in (i := 1151) (by decide +kernel) rfl
theorem lk_X4_35 : Cond.methodLink RX4 35 yX8_size ∈ wt_ := wt_in (i := 1155) (by decide +kernel) rfl
theorem lk_X4_40 : Cond.methodLink RX4 40 yX4_isSo ∈ wt_ := wt_in (i := 1156) (by decide +kernel) rfl
theorem lk_X4_44 : Cond.methodLink RX4 44 yX8_shownAt ∈ wt_ := wt_in (i := 1160) (by decide +kernel) rfl
theorem lk_X11_351 : Cond.methodLink RX11 351 yX4_foundAt ∈ wt_ := wt_in (i := 1161) (by decide +kernel) rfl
theorem lk_L_176 : Cond.methodLink RL 176 yX11_ask ∈ wt_ := wt_in (i := 1165) (by decide +kernel) rfl
theorem lk_X11_354 : Cond.methodLink RX11 354 yX4_bestTick ∈ wt_ := wt_in (i := 1169) (by decide +kernel) rfl
theorem lk_X4_48 : Cond.methodLink RX4 48 yX4_mostAlike ∈ wt_ := wt_in (i := 1173) (by decide +kernel) rfl
theorem lk_X4_52 : Cond.methodLink RX4 52 yJ7_fill_53178 ∈ wt_ := wt_in (i := 1177) (by decide +kernel) rfl
theorem lk_X4_58 : Cond.methodLink RX4 58 yJ9_max_7cf53 ∈ wt_ := wt_in (i := 1178) (by decide +kernel) rfl
theorem lk_L_180 : Cond.methodLink RL 180 yX11_game ∈ wt_ := wt_in (i := 1179) (by decide +kernel) rfl
theorem lk_X11_358 : Cond.methodLink RX11 358 yX11_lookerHas ∈ wt_ := wt_in (i := 1183) (by decide +kernel) rfl
theorem lk_X11_369 : Cond.methodLink RX11 369 yX11_unlikeSeen ∈ wt_ := wt_in (i := 1187) (by decide +kernel) rfl
theorem lk_X11_373 : Cond.methodLink RX11 373 yX11_withoutBlank ∈ wt_ := wt_in (i := 1191) (by decide +kernel) rfl
theorem kc_X11_381 : Cond.constant RX11 381 (67108863) ∈ wt_ := wt_in (i := 1194) (by decide +kernel) rfl
theorem lk_X11_376 : Cond.methodLink RX11 376 yJ6_bitCount_0f7a4 ∈ wt_ := wt_in (i := 1195) (by decide +kernel) rfl
theorem kc_J6_265 : Cond.constant RJ6 265 (1431655765) ∈ wt_ := wt_in (i := 1198) (by decide +kernel) rfl
theorem kc_J6_266 : Cond.constant RJ6 266 (858993459) ∈ wt_ := wt_in (i := 1199) (by decide +kernel) rfl
theorem kc_J6_267 : Cond.constant RJ6 267 (252645135) ∈ wt_ := wt_in (i := 1200) (by decide +kernel) rfl
theorem lk_X11_362 : Cond.methodLink RX11 362 yX11_turnerHas ∈ wt_ := wt_in (i := 1201) (by decide +kernel) rfl
theorem lk_L_185 : Cond.methodLink RL 185 yX11_rests ∈ wt_ := wt_in (i := 1205) (by decide +kernel) rfl
theorem lk_X11_365 : Cond.methodLink RX11 365 yX11_isRest ∈ wt_ := wt_in (i := 1209) (by decide +kernel) rfl
theorem lk_L_189 : Cond.methodLink RL 189 yX11_odds ∈ wt_ := wt_in (i := 1213) (by decide +kernel) rfl
theorem lk_X11_382 : Cond.methodLink RX11 382 yX0_partsShowing ∈ wt_ := wt_in (i := 1217) (by decide +kernel) rfl
theorem kc_X0_95 : Cond.constantLong RX0 95 (1000000000) ∈ wt_ := wt_in (i := 1221) (by decide +kernel) rfl
theorem lk_X0_97 : Cond.methodLink RX0 97 yJ9_min_7cf53 ∈ wt_ := wt_in (i := 1222) (by decide +kernel) rfl
theorem lk_X0_102 : Cond.methodLink RX0 102 yX0_showingOf ∈ wt_ := wt_in (i := 1223) (by decide +kernel) rfl
theorem kc_X0_106 : Cond.constantLong RX0 106 (100) ∈ wt_ := wt_in (i := 1227) (by decide +kernel) rfl
theorem lk_L_193 : Cond.methodLink RL 193 yX11_shares ∈ wt_ := wt_in (i := 1228) (by decide +kernel) rfl
theorem lk_L_197 : Cond.methodLink RL 197 yX11_most ∈ wt_ := wt_in (i := 1232) (by decide +kernel) rfl
theorem lk_X11_385 : Cond.methodLink RX11 385 yX11_fastest ∈ wt_ := wt_in (i := 1236) (by decide +kernel) rfl
theorem lk_X11_388 : Cond.methodLink RX11 388 yX11_longest ∈ wt_ := wt_in (i := 1240) (by decide +kernel) rfl
theorem lk_X11_391 : Cond.methodLink RX11 391 yX11_commonest ∈ wt_ := wt_in (i := 1244) (by decide +kernel) rfl
theorem lk_X11_412 : Cond.methodLink RX11 412 yX8_has ∈ wt_ := wt_in (i := 1248) (by decide +kernel) rfl
theorem lk_X11_394 : Cond.methodLink RX11 394 yX11_shownNow ∈ wt_ := wt_in (i := 1252) (by decide +kernel) rfl
theorem lk_X11_397 : Cond.methodLink RX11 397 yX11_twins ∈ wt_ := wt_in (i := 1256) (by decide +kernel) rfl
theorem lk_X11_400 : Cond.methodLink RX11 400 yX11_turningBack ∈ wt_ := wt_in (i := 1260) (by decide +kernel) rfl
theorem lk_X11_403 : Cond.methodLink RX11 403 yX11_bareNow ∈ wt_ := wt_in (i := 1264) (by decide +kernel) rfl
theorem lk_X11_406 : Cond.methodLink RX11 406 yX11_still ∈ wt_ := wt_in (i := 1268) (by decide +kernel) rfl
theorem lk_X11_409 : Cond.methodLink RX11 409 yX11_byPlace ∈ wt_ := wt_in (i := 1272) (by decide +kernel) rfl
theorem lk_L_201 : Cond.methodLink RL 201 yX11_image ∈ wt_ := wt_in (i := 1276) (by decide +kernel) rfl
theorem lk_X11_415 : Cond.methodLink RX11 415 yX7_copyFrom ∈ wt_ := wt_in (i := 1280) (by decide +kernel) rfl
theorem lk_L_205 : Cond.methodLink RL 205 yX11_back ∈ wt_ := wt_in (i := 1281) (by decide +kernel) rfl
theorem lk_L_209 : Cond.methodLink RL 209 yX11_count ∈ wt_ := wt_in (i := 1285) (by decide +kernel) rfl
theorem lk_L_42 : Cond.methodLink RL 42 yL_wheel ∈ wt_ := wt_in (i := 1289) (by decide +kernel) rfl
theorem kl_L_13 : Cond.classLink RL 13 "java/util/NoSuchElementException" ∈ wt_ := wt_in (i := 1292) (by decide +kernel) rfl
theorem lk_L_7 : Cond.methodLink RL 7 yX11_wheel ∈ wt_ := wt_in (i := 1293) (by decide +kernel) rfl
theorem kl_X11_199 : Cond.classLink RX11 199 "java/util/NoSuchElementException" ∈ wt_ := wt_in (i := 1297) (by decide +kernel) rfl
theorem sa_1329 : Cond.sameMethod "java/lang/Throwable" "java/lang/Throwable" "fillInStackTrace" "()Ljava/lang/Throwable;" ∈ wt_ := wt_in (i := 1329) (by decide +kernel) rfl
theorem lk_X11_203 : Cond.methodLink RX11 203 ⟨"java/util/NoSuchElementException", "<init>", "(Ljava/lang/String;)V"⟩ ∈ wt_ := wt_in (i := 1337) (by decide +kernel) rfl
theorem kl_L_16 : Cond.classLink RL 16 RX12 ∈ wt_ := wt_in (i := 1363) (by decide +kernel) rfl
theorem in_X12 : Cond.instantiable RX12 41 ∈ wt_ := wt_in (i := 1364) (by decide +kernel) rfl
theorem lk_L_18 : Cond.methodLink RL 18 yX12_init ∈ wt_ := wt_in (i := 1365) (by decide +kernel) rfl
theorem lk_X12_3 : Cond.methodLink RX12 3 ⟨"java/lang/Object", "<init>", "()V"⟩ ∈ wt_ := wt_in (i := 1368) (by decide +kernel) rfl
theorem lk_L_48 : Cond.methodLink RL 48 yX12_thrown ∈ wt_ := wt_in (i := 1493) (by decide +kernel) rfl
theorem lk_L_23 : Cond.methodLink RL 23 yX12_feed ∈ wt_ := wt_in (i := 1497) (by decide +kernel) rfl
theorem lk_X12_96 : Cond.methodLink RX12 96 yX12_byteOf ∈ wt_ := wt_in (i := 1501) (by decide +kernel) rfl
theorem lk_L_28 : Cond.methodLink RL 28 yX12_end ∈ wt_ := wt_in (i := 1504) (by decide +kernel) rfl
theorem lk_L_33 : Cond.methodLink RL 33 yX12_fault ∈ wt_ := wt_in (i := 1508) (by decide +kernel) rfl
theorem lk_X12_242 : Cond.methodLink RX12 242 yX12_readLantern ∈ wt_ := wt_in (i := 1512) (by decide +kernel) rfl
theorem lk_X12_212 : Cond.methodLink RX12 212 yX12_usual ∈ wt_ := wt_in (i := 1516) (by decide +kernel) rfl
theorem lk_X12_122 : Cond.methodLink RX12 122 yX12_look ∈ wt_ := wt_in (i := 1519) (by decide +kernel) rfl
theorem lk_X12_106 : Cond.methodLink RX12 106 yX12_here ∈ wt_ := wt_in (i := 1523) (by decide +kernel) rfl
theorem lk_X12_232 : Cond.methodLink RX12 232 yX12_items ∈ wt_ := wt_in (i := 1527) (by decide +kernel) rfl
theorem lk_X12_216 : Cond.methodLink RX12 216 yX12_itemOf ∈ wt_ := wt_in (i := 1531) (by decide +kernel) rfl
theorem lk_X12_219 : Cond.methodLink RX12 219 yX12_has ∈ wt_ := wt_in (i := 1534) (by decide +kernel) rfl
theorem lk_X12_223 : Cond.methodLink RX12 223 yX12_highest ∈ wt_ := wt_in (i := 1537) (by decide +kernel) rfl
theorem lk_X12_226 : Cond.methodLink RX12 226 yX12_number ∈ wt_ := wt_in (i := 1540) (by decide +kernel) rfl
theorem lk_X12_125 : Cond.methodLink RX12 125 yX12_isDigit ∈ wt_ := wt_in (i := 1544) (by decide +kernel) rfl
theorem lk_X12_119 : Cond.methodLink RX12 119 yX12_bad ∈ wt_ := wt_in (i := 1547) (by decide +kernel) rfl
theorem lk_X12_208 : Cond.methodLink RX12 208 yX12_in ∈ wt_ := wt_in (i := 1551) (by decide +kernel) rfl
theorem lk_X12_245 : Cond.methodLink RX12 245 yX12_readLaw ∈ wt_ := wt_in (i := 1554) (by decide +kernel) rfl
theorem lk_X12_174 : Cond.methodLink RX12 174 yX12_open ∈ wt_ := wt_in (i := 1558) (by decide +kernel) rfl
theorem lk_X12_177 : Cond.methodLink RX12 177 yX12_clause ∈ wt_ := wt_in (i := 1562) (by decide +kernel) rfl
theorem lk_X12_162 : Cond.methodLink RX12 162 yX12_condition ∈ wt_ := wt_in (i := 1566) (by decide +kernel) rfl
theorem lk_X12_159 : Cond.methodLink RX12 159 yX12_unit ∈ wt_ := wt_in (i := 1570) (by decide +kernel) rfl
theorem lk_X12_140 : Cond.methodLink RX12 140 yX12_opens ∈ wt_ := wt_in (i := 1574) (by decide +kernel) rfl
theorem lk_X12_132 : Cond.methodLink RX12 132 yX12_put ∈ wt_ := wt_in (i := 1578) (by decide +kernel) rfl
theorem lk_X12_146 : Cond.methodLink RX12 146 yX12_closes ∈ wt_ := wt_in (i := 1582) (by decide +kernel) rfl
theorem lk_X12_143 : Cond.methodLink RX12 143 yX12_sum ∈ wt_ := wt_in (i := 1586) (by decide +kernel) rfl
theorem lk_X12_153 : Cond.methodLink RX12 153 yX12_term ∈ wt_ := wt_in (i := 1590) (by decide +kernel) rfl
theorem lk_X12_150 : Cond.methodLink RX12 150 yX12_atom ∈ wt_ := wt_in (i := 1594) (by decide +kernel) rfl
theorem lk_X12_129 : Cond.methodLink RX12 129 yX12_plainNumber ∈ wt_ := wt_in (i := 1598) (by decide +kernel) rfl
theorem lk_X12_136 : Cond.methodLink RX12 136 yX12_letterOf ∈ wt_ := wt_in (i := 1602) (by decide +kernel) rfl
theorem lk_X12_165 : Cond.methodLink RX12 165 yX12_compare ∈ wt_ := wt_in (i := 1605) (by decide +kernel) rfl
theorem lk_X12_156 : Cond.methodLink RX12 156 yX12_isSign ∈ wt_ := wt_in (i := 1609) (by decide +kernel) rfl
theorem lk_X12_168 : Cond.methodLink RX12 168 yX12_goOnAnd ∈ wt_ := wt_in (i := 1612) (by decide +kernel) rfl
theorem lk_X12_171 : Cond.methodLink RX12 171 yX12_goOnOr ∈ wt_ := wt_in (i := 1616) (by decide +kernel) rfl
theorem lk_X12_180 : Cond.methodLink RX12 180 yX12_atEnd ∈ wt_ := wt_in (i := 1620) (by decide +kernel) rfl
theorem lk_X12_248 : Cond.methodLink RX12 248 yX12_readStrip ∈ wt_ := wt_in (i := 1624) (by decide +kernel) rfl
theorem lk_X12_239 : Cond.methodLink RX12 239 yX12_readPicture ∈ wt_ := wt_in (i := 1628) (by decide +kernel) rfl
theorem lk_X12_236 : Cond.methodLink RX12 236 yX12_isPicture ∈ wt_ := wt_in (i := 1632) (by decide +kernel) rfl
theorem lk_L_37 : Cond.methodLink RL 37 yX12_text ∈ wt_ := wt_in (i := 1635) (by decide +kernel) rfl
theorem lk_X12_279 : Cond.methodLink RX12 279 yX12_takeLantern ∈ wt_ := wt_in (i := 1639) (by decide +kernel) rfl
theorem lk_X12_254 : Cond.methodLink RX12 254 yX12_of ∈ wt_ := wt_in (i := 1643) (by decide +kernel) rfl
theorem lk_X12_266 : Cond.methodLink RX12 266 yX12_longOf ∈ wt_ := wt_in (i := 1647) (by decide +kernel) rfl
theorem lk_X12_257 : Cond.methodLink RX12 257 yX12_stripLongOf ∈ wt_ := wt_in (i := 1651) (by decide +kernel) rfl
theorem lk_L_41 : Cond.methodLink RL 41 yX12_rule ∈ wt_ := wt_in (i := 1655) (by decide +kernel) rfl
theorem lk_L_47 : Cond.methodLink RL 47 yX12_wheel ∈ wt_ := wt_in (i := 1659) (by decide +kernel) rfl
theorem lk_X12_307 : Cond.methodLink RX12 307 yX12_isWheel ∈ wt_ := wt_in (i := 1663) (by decide +kernel) rfl
theorem lk_X12_304 : Cond.methodLink RX12 304 yX12_showsOf ∈ wt_ := wt_in (i := 1667) (by decide +kernel) rfl
theorem lk_X12_260 : Cond.methodLink RX12 260 yX12_pictureAt ∈ wt_ := wt_in (i := 1671) (by decide +kernel) rfl
theorem lk_L_55 : Cond.methodLink RL 55 yX12_picture ∈ wt_ := wt_in (i := 1675) (by decide +kernel) rfl
theorem lk_X12_310 : Cond.methodLink RX12 310 yX12_isStrip ∈ wt_ := wt_in (i := 1679) (by decide +kernel) rfl
theorem lk_L_59 : Cond.methodLink RL 59 yX12_law ∈ wt_ := wt_in (i := 1683) (by decide +kernel) rfl
theorem lk_L_63 : Cond.methodLink RL 63 yX12_touch ∈ wt_ := wt_in (i := 1687) (by decide +kernel) rfl
theorem lk_L_67 : Cond.methodLink RL 67 yX12_ticks ∈ wt_ := wt_in (i := 1691) (by decide +kernel) rfl
theorem lk_X12_313 : Cond.methodLink RX12 313 yX12_areTicks ∈ wt_ := wt_in (i := 1695) (by decide +kernel) rfl
theorem lk_X12_316 : Cond.methodLink RX12 316 yX12_isRefused ∈ wt_ := wt_in (i := 1699) (by decide +kernel) rfl
theorem lk_X12_319 : Cond.methodLink RX12 319 yX12_keep ∈ wt_ := wt_in (i := 1703) (by decide +kernel) rfl
theorem lk_X12_322 : Cond.methodLink RX12 322 yX12_passTick ∈ wt_ := wt_in (i := 1707) (by decide +kernel) rfl
theorem lk_X12_298 : Cond.methodLink RX12 298 yX12_nextOf ∈ wt_ := wt_in (i := 1711) (by decide +kernel) rfl
theorem lk_X12_292 : Cond.methodLink RX12 292 yX12_moveBy ∈ wt_ := wt_in (i := 1715) (by decide +kernel) rfl
theorem lk_X12_285 : Cond.methodLink RX12 285 yX12_worthOf ∈ wt_ := wt_in (i := 1719) (by decide +kernel) rfl
theorem lk_X12_204 : Cond.methodLink RX12 204 yX12_workOut ∈ wt_ := wt_in (i := 1723) (by decide +kernel) rfl
theorem lk_X12_200 : Cond.methodLink RX12 200 yX12_worked ∈ wt_ := wt_in (i := 1727) (by decide +kernel) rfl
theorem lk_X12_196 : Cond.methodLink RX12 196 yX12_bounded ∈ wt_ := wt_in (i := 1730) (by decide +kernel) rfl
theorem kc_X12_183 : Cond.constantLong RX12 183 (-1000000) ∈ wt_ := wt_in (i := 1733) (by decide +kernel) rfl
theorem kc_X12_185 : Cond.constantLong RX12 185 (1000000) ∈ wt_ := wt_in (i := 1734) (by decide +kernel) rfl
theorem lk_X12_187 : Cond.methodLink RX12 187 yJ9_min_f86c9 ∈ wt_ := wt_in (i := 1735) (by decide +kernel) rfl
theorem lk_X12_193 : Cond.methodLink RX12 193 yJ9_max_f86c9 ∈ wt_ := wt_in (i := 1736) (by decide +kernel) rfl
theorem lk_X12_288 : Cond.methodLink RX12 288 yJ9_min_7cf53 ∈ wt_ := wt_in (i := 1737) (by decide +kernel) rfl
theorem lk_X12_290 : Cond.methodLink RX12 290 yJ9_max_7cf53 ∈ wt_ := wt_in (i := 1738) (by decide +kernel) rfl
theorem lk_X12_295 : Cond.methodLink RX12 295 yX12_round ∈ wt_ := wt_in (i := 1739) (by decide +kernel) rfl
theorem lk_X12_301 : Cond.methodLink RX12 301 yX12_putLog ∈ wt_ := wt_in (i := 1742) (by decide +kernel) rfl
theorem lk_L_71 : Cond.methodLink RL 71 yX12_flash ∈ wt_ := wt_in (i := 1746) (by decide +kernel) rfl
theorem lk_L_75 : Cond.methodLink RL 75 yX12_speed ∈ wt_ := wt_in (i := 1750) (by decide +kernel) rfl
theorem lk_L_79 : Cond.methodLink RL 79 yX12_about ∈ wt_ := wt_in (i := 1754) (by decide +kernel) rfl
theorem lk_L_83 : Cond.methodLink RL 83 yX12_push ∈ wt_ := wt_in (i := 1758) (by decide +kernel) rfl
theorem lk_X12_325 : Cond.methodLink RX12 325 yX12_pushNow ∈ wt_ := wt_in (i := 1762) (by decide +kernel) rfl
theorem lk_L_87 : Cond.methodLink RL 87 yX12_puts ∈ wt_ := wt_in (i := 1766) (by decide +kernel) rfl
theorem lk_L_91 : Cond.methodLink RL 91 yX12_oil ∈ wt_ := wt_in (i := 1770) (by decide +kernel) rfl
theorem lk_L_95 : Cond.methodLink RL 95 yX12_give ∈ wt_ := wt_in (i := 1774) (by decide +kernel) rfl
theorem lk_L_102 : Cond.methodLink RL 102 yX12_years ∈ wt_ := wt_in (i := 1778) (by decide +kernel) rfl
theorem lk_X12_339 : Cond.methodLink RX12 339 yX12_drawTick ∈ wt_ := wt_in (i := 1782) (by decide +kernel) rfl
theorem lk_X12_336 : Cond.methodLink RX12 336 yX12_draw ∈ wt_ := wt_in (i := 1786) (by decide +kernel) rfl
theorem kc_X12_332 : Cond.constantLong RX12 332 (6364136223846793005) ∈ wt_ := wt_in (i := 1790) (by decide +kernel) rfl
theorem kc_X12_334 : Cond.constantLong RX12 334 (1442695040888963407) ∈ wt_ := wt_in (i := 1791) (by decide +kernel) rfl
theorem lk_L_106 : Cond.methodLink RL 106 yX12_status ∈ wt_ := wt_in (i := 1792) (by decide +kernel) rfl
theorem lk_L_110 : Cond.methodLink RL 110 yX12_undo ∈ wt_ := wt_in (i := 1796) (by decide +kernel) rfl
theorem lk_L_114 : Cond.methodLink RL 114 yX12_log ∈ wt_ := wt_in (i := 1800) (by decide +kernel) rfl
theorem lk_L_118 : Cond.methodLink RL 118 yX12_at ∈ wt_ := wt_in (i := 1804) (by decide +kernel) rfl
theorem lk_X12_342 : Cond.methodLink RX12 342 yX12_placeBehind ∈ wt_ := wt_in (i := 1808) (by decide +kernel) rfl
theorem lk_L_122 : Cond.methodLink RL 122 yX12_seems ∈ wt_ := wt_in (i := 1812) (by decide +kernel) rfl
theorem kc_X12_345 : Cond.constant RX12 345 (-1000000) ∈ wt_ := wt_in (i := 1816) (by decide +kernel) rfl
theorem lk_L_126 : Cond.methodLink RL 126 yX12_stands ∈ wt_ := wt_in (i := 1817) (by decide +kernel) rfl
theorem lk_X12_346 : Cond.methodLink RX12 346 yX12_layTrail ∈ wt_ := wt_in (i := 1821) (by decide +kernel) rfl
theorem lk_X12_349 : Cond.methodLink RX12 349 yX12_standsBy ∈ wt_ := wt_in (i := 1825) (by decide +kernel) rfl
theorem lk_L_130 : Cond.methodLink RL 130 yX12_together ∈ wt_ := wt_in (i := 1829) (by decide +kernel) rfl
theorem lk_L_134 : Cond.methodLink RL 134 yX12_again ∈ wt_ := wt_in (i := 1833) (by decide +kernel) rfl
theorem lk_X12_352 : Cond.methodLink RX12 352 yX12_startSpots ∈ wt_ := wt_in (i := 1837) (by decide +kernel) rfl
theorem lk_X12_355 : Cond.methodLink RX12 355 yX12_goSpots ∈ wt_ := wt_in (i := 1841) (by decide +kernel) rfl
theorem lk_X12_358 : Cond.methodLink RX12 358 yX12_areHome ∈ wt_ := wt_in (i := 1845) (by decide +kernel) rfl
theorem lk_L_138 : Cond.methodLink RL 138 yX12_meets ∈ wt_ := wt_in (i := 1849) (by decide +kernel) rfl
theorem lk_X12_361 : Cond.methodLink RX12 361 yX12_spotShows ∈ wt_ := wt_in (i := 1853) (by decide +kernel) rfl
theorem lk_L_142 : Cond.methodLink RL 142 yX12_reads ∈ wt_ := wt_in (i := 1857) (by decide +kernel) rfl
theorem lk_L_146 : Cond.methodLink RL 146 yX12_period ∈ wt_ := wt_in (i := 1861) (by decide +kernel) rfl
theorem lk_X12_368 : Cond.methodLink RX12 368 yX12_isAlike ∈ wt_ := wt_in (i := 1865) (by decide +kernel) rfl
theorem lk_X12_364 : Cond.methodLink RX12 364 yX12_turned ∈ wt_ := wt_in (i := 1869) (by decide +kernel) rfl
theorem lk_L_150 : Cond.methodLink RL 150 yX12_least ∈ wt_ := wt_in (i := 1873) (by decide +kernel) rfl
theorem lk_X12_372 : Cond.methodLink RX12 372 yX12_isAhead ∈ wt_ := wt_in (i := 1877) (by decide +kernel) rfl
theorem lk_L_155 : Cond.methodLink RL 155 yX12_alike ∈ wt_ := wt_in (i := 1881) (by decide +kernel) rfl
theorem lk_X12_375 : Cond.methodLink RX12 375 yX12_alikeBy ∈ wt_ := wt_in (i := 1885) (by decide +kernel) rfl
theorem lk_L_159 : Cond.methodLink RL 159 yX12_mirror ∈ wt_ := wt_in (i := 1889) (by decide +kernel) rfl
theorem lk_L_163 : Cond.methodLink RL 163 yX12_rows ∈ wt_ := wt_in (i := 1893) (by decide +kernel) rfl
theorem lk_X12_379 : Cond.methodLink RX12 379 yX12_areRowsAlike ∈ wt_ := wt_in (i := 1897) (by decide +kernel) rfl
theorem lk_L_167 : Cond.methodLink RL 167 yX12_kinds ∈ wt_ := wt_in (i := 1901) (by decide +kernel) rfl
theorem lk_X12_383 : Cond.methodLink RX12 383 yX12_commonOf ∈ wt_ := wt_in (i := 1905) (by decide +kernel) rfl
theorem lk_X12_386 : Cond.methodLink RX12 386 yX12_power ∈ wt_ := wt_in (i := 1908) (by decide +kernel) rfl
theorem lk_L_171 : Cond.methodLink RL 171 yX12_noted ∈ wt_ := wt_in (i := 1911) (by decide +kernel) rfl
theorem lk_L_175 : Cond.methodLink RL 175 yX12_fits ∈ wt_ := wt_in (i := 1915) (by decide +kernel) rfl
theorem lk_X12_394 : Cond.methodLink RX12 394 yX12_isFit ∈ wt_ := wt_in (i := 1919) (by decide +kernel) rfl
theorem lk_X12_390 : Cond.methodLink RX12 390 yX12_shownBy ∈ wt_ := wt_in (i := 1923) (by decide +kernel) rfl
theorem lk_L_179 : Cond.methodLink RL 179 yX12_ask ∈ wt_ := wt_in (i := 1927) (by decide +kernel) rfl
theorem lk_X12_397 : Cond.methodLink RX12 397 yX12_fits ∈ wt_ := wt_in (i := 1931) (by decide +kernel) rfl
theorem lk_L_184 : Cond.methodLink RL 184 yX12_game ∈ wt_ := wt_in (i := 1932) (by decide +kernel) rfl
theorem lk_X12_406 : Cond.methodLink RX12 406 yX12_gameOf ∈ wt_ := wt_in (i := 1936) (by decide +kernel) rfl
theorem kc_X12_400 : Cond.constant RX12 400 (67108863) ∈ wt_ := wt_in (i := 1940) (by decide +kernel) rfl
theorem lk_X12_401 : Cond.methodLink RX12 401 yJ6_bitCount_0f7a4 ∈ wt_ := wt_in (i := 1941) (by decide +kernel) rfl
theorem lk_L_188 : Cond.methodLink RL 188 yX12_rests ∈ wt_ := wt_in (i := 1942) (by decide +kernel) rfl
theorem lk_X12_409 : Cond.methodLink RX12 409 yX12_isRest ∈ wt_ := wt_in (i := 1946) (by decide +kernel) rfl
theorem lk_L_192 : Cond.methodLink RL 192 yX12_odds ∈ wt_ := wt_in (i := 1950) (by decide +kernel) rfl
theorem kc_X12_418 : Cond.constant RX12 418 (1000000000) ∈ wt_ := wt_in (i := 1954) (by decide +kernel) rfl
theorem lk_X12_414 : Cond.methodLink RX12 414 yX12_oddsFrom ∈ wt_ := wt_in (i := 1955) (by decide +kernel) rfl
theorem kc_X12_412 : Cond.constantLong RX12 412 (100) ∈ wt_ := wt_in (i := 1959) (by decide +kernel) rfl
theorem lk_L_196 : Cond.methodLink RL 196 yX12_shares ∈ wt_ := wt_in (i := 1960) (by decide +kernel) rfl
theorem lk_L_200 : Cond.methodLink RL 200 yX12_most ∈ wt_ := wt_in (i := 1964) (by decide +kernel) rfl
theorem lk_X12_422 : Cond.methodLink RX12 422 yX12_topBy ∈ wt_ := wt_in (i := 1968) (by decide +kernel) rfl
theorem lk_X12_426 : Cond.methodLink RX12 426 yX12_commonest ∈ wt_ := wt_in (i := 1972) (by decide +kernel) rfl
theorem lk_X12_419 : Cond.methodLink RX12 419 yX12_stripsWith ∈ wt_ := wt_in (i := 1976) (by decide +kernel) rfl
theorem lk_X12_429 : Cond.methodLink RX12 429 yX12_shownOnes ∈ wt_ := wt_in (i := 1980) (by decide +kernel) rfl
theorem lk_X12_432 : Cond.methodLink RX12 432 yX12_twins ∈ wt_ := wt_in (i := 1984) (by decide +kernel) rfl
theorem lk_X12_435 : Cond.methodLink RX12 435 yX12_orderRow ∈ wt_ := wt_in (i := 1988) (by decide +kernel) rfl
theorem lk_X12_438 : Cond.methodLink RX12 438 yX12_onesWho ∈ wt_ := wt_in (i := 1992) (by decide +kernel) rfl
theorem lk_L_204 : Cond.methodLink RL 204 yX12_image ∈ wt_ := wt_in (i := 1996) (by decide +kernel) rfl
theorem lk_L_208 : Cond.methodLink RL 208 yX12_back ∈ wt_ := wt_in (i := 2000) (by decide +kernel) rfl
theorem lk_L_212 : Cond.methodLink RL 212 yX12_count ∈ wt_ := wt_in (i := 2004) (by decide +kernel) rfl
theorem kc_L_96 : Cond.constantLong RL 96 (4294967295) ∈ wt_ := wt_in (i := 2008) (by decide +kernel) rfl
theorem sa_2010 : Cond.sameMethod "java/lang/Throwable" "java/lang/Throwable" "fillInStackTrace" "(I)Ljava/lang/Throwable;" ∈ wt_ := wt_in (i := 2010) (by decide +kernel) rfl
theorem wt_ai : Cond.arrayClass .int ∈ wt_ := wt_in (i := 199) (by decide +kernel) rfl
