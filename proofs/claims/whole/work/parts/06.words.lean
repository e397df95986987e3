theorem zIn (ws : List Cond) (ps : List Nat) (hp : ws.map some = ps.map (fun i => lw_tbl[i]?)) (hg : ws.all goodWord = true) : ∀ w ∈ ws, w ∈ tblG := by
  intro w hw
  have h1 : some w ∈ ws.map some := List.mem_map.mpr ⟨w, hw, rfl⟩
  rw [hp] at h1
  obtain ⟨i, -, hi⟩ := List.mem_map.mp h1
  exact tblG_at i hi (List.all_eq_true.mp hg w hw)
theorem inG0 : ∀ w ∈ u_ws RX0 TX0 0, w ∈ tblG := by decide +kernel
theorem inG1 : ∀ w ∈ u_ws RX1 TX1 0, w ∈ tblG := by decide +kernel
theorem inG2 : ∀ w ∈ u_ws RX2 TX2 0, w ∈ tblG := by decide +kernel
theorem inG3 : ∀ w ∈ u_ws RX3 TX3 0, w ∈ tblG := by decide +kernel
theorem inG4 : ∀ w ∈ u_ws RX4 TX4 0, w ∈ tblG := by decide +kernel
theorem inG5 : ∀ w ∈ u_ws RX5 TX5 9, w ∈ tblG := zIn _ [251, 253, 255, 257, 259, 261, 263, 265, 267] (by decide +kernel) (by decide +kernel)
theorem inG6 : ∀ w ∈ u_ws RX6 TX6 20, w ∈ tblG := zIn _ [143, 145, 147, 149, 151, 153, 155, 157, 159, 161, 163, 165, 167, 169, 171, 173, 175, 177, 179, 181] (by decide +kernel) (by decide +kernel)
theorem inG7 : ∀ w ∈ u_ws RX7 TX7 0, w ∈ tblG := by decide +kernel
theorem inG8 : ∀ w ∈ u_ws RX8 TX8 3, w ∈ tblG := zIn _ [311, 313, 315] (by decide +kernel) (by decide +kernel)
theorem inG9 : ∀ w ∈ u_ws RX9 TX9 0, w ∈ tblG := by decide +kernel
theorem inG10 : ∀ w ∈ u_ws RX10 TX10 4, w ∈ tblG := zIn _ [290, 292, 294, 296] (by decide +kernel) (by decide +kernel)
theorem inG11 : ∀ w ∈ u_ws RX11 TX11 13, w ∈ tblG := zIn _ [332, 334, 336, 338, 340, 342, 344, 346, 348, 350, 352, 354, 356] (by decide +kernel) (by decide +kernel)
theorem inG12 : ∀ w ∈ u_ws RX12 TX12 28, w ∈ tblG := zIn _ [1045, 1047, 1049, 1051, 1053, 1055, 1057, 1059, 1061, 1063, 1065, 1067, 1069, 1071, 1073, 1075, 1077, 1079, 1081, 1083, 1085, 1087, 1089, 1091, 1093, 1095, 1097, 1099] (by decide +kernel) (by decide +kernel)
theorem w278 : (Cond.fieldLink "ButlerRemembers$Turn" (7 : Nat) "ButlerRemembers$Turn" "number" "I") ∈ tblG := tblG_at 278 (by decide +kernel) (by decide +kernel)
theorem pX10_7 : zFp RX10 7 10 0 .int false := ⟨RX10, TX10, 4, tyX10, rfl, by decide, w278, inG10, tyX10_ok, nmX10, rfl, rfl, fun q => by cases q⟩
theorem w282 : (Cond.fieldLink "ButlerRemembers$Turn" (13 : Nat) "ButlerRemembers$Turn" "v" "I") ∈ tblG := tblG_at 282 (by decide +kernel) (by decide +kernel)
theorem pX10_13 : zFp RX10 13 10 1 .int false := ⟨RX10, TX10, 4, tyX10, rfl, by decide, w282, inG10, tyX10_ok, nmX10, rfl, rfl, fun q => by cases q⟩
theorem w286 : (Cond.fieldLink "ButlerRemembers$Turn" (16 : Nat) "ButlerRemembers$Turn" "ran" "I") ∈ tblG := tblG_at 286 (by decide +kernel) (by decide +kernel)
theorem qX10_16 : zFg RX10 16 10 2 := ⟨RX10, TX10, 4, rfl, by decide, w286, inG10⟩
theorem pX10_16 : zFp RX10 16 10 2 .int false := ⟨RX10, TX10, 4, tyX10, rfl, by decide, w286, inG10, tyX10_ok, nmX10, rfl, rfl, fun q => by cases q⟩
theorem w288 : (Cond.fieldLink "ButlerRemembers$Turn" (19 : Nat) "ButlerRemembers$Turn" "bodies" "[I") ∈ tblG := tblG_at 288 (by decide +kernel) (by decide +kernel)
theorem qX10_19 : zFg RX10 19 10 3 := ⟨RX10, TX10, 4, rfl, by decide, w288, inG10⟩
theorem pX10_19 : zFp RX10 19 10 3 (.array .int) true := ⟨RX10, TX10, 4, tyX10, rfl, by decide, w288, inG10, tyX10_ok, nmX10, rfl, rfl, fun _ => rfl⟩
theorem w319 : (Cond.fieldLink "ButlerRemembers" (12 : Nat) "ButlerRemembers" "now" "LButlerRemembers$Household;") ∈ tblG := tblG_at 319 (by decide +kernel) (by decide +kernel)
theorem qX11_12 : zFg RX11 12 11 0 := ⟨RX11, TX11, 13, rfl, by decide, w319, inG11⟩
theorem pX11_12 : zFp RX11 12 11 0 (.object "ButlerRemembers$Household") true := ⟨RX11, TX11, 13, tyX11, rfl, by decide, w319, inG11, tyX11_ok, nmX11, rfl, rfl, fun _ => rfl⟩
theorem w320 : (Cond.fieldLink "ButlerRemembers" (18 : Nat) "ButlerRemembers" "saved" "LButlerRemembers$Household;") ∈ tblG := tblG_at 320 (by decide +kernel) (by decide +kernel)
theorem qX11_18 : zFg RX11 18 11 1 := ⟨RX11, TX11, 13, rfl, by decide, w320, inG11⟩
theorem pX11_18 : zFp RX11 18 11 1 (.object "ButlerRemembers$Household") true := ⟨RX11, TX11, 13, tyX11, rfl, by decide, w320, inG11, tyX11_ok, nmX11, rfl, rfl, fun _ => rfl⟩
theorem w321 : (Cond.fieldLink "ButlerRemembers" (21 : Nat) "ButlerRemembers" "imageTaken" "Z") ∈ tblG := tblG_at 321 (by decide +kernel) (by decide +kernel)
theorem qX11_21 : zFg RX11 21 11 2 := ⟨RX11, TX11, 13, rfl, by decide, w321, inG11⟩
theorem pX11_21 : zFp RX11 21 11 2 .boolean false := ⟨RX11, TX11, 13, tyX11, rfl, by decide, w321, inG11, tyX11_ok, nmX11, rfl, rfl, fun q => by cases q⟩
theorem w322 : (Cond.fieldLink "ButlerRemembers" (46 : Nat) "ButlerRemembers" "manners" "[LButlerRemembers$Master;") ∈ tblG := tblG_at 322 (by decide +kernel) (by decide +kernel)
theorem qX11_46 : zFg RX11 46 11 3 := ⟨RX11, TX11, 13, rfl, by decide, w322, inG11⟩
theorem pX11_46 : zFp RX11 46 11 3 (.array (.object "ButlerRemembers$Master")) true := ⟨RX11, TX11, 13, tyX11, rfl, by decide, w322, inG11, tyX11_ok, nmX11, rfl, rfl, fun _ => rfl⟩
theorem w323 : (Cond.fieldLink "ButlerRemembers" (53 : Nat) "ButlerRemembers" "bare" "LButlerRemembers$House;") ∈ tblG := tblG_at 323 (by decide +kernel) (by decide +kernel)
theorem qX11_53 : zFg RX11 53 11 4 := ⟨RX11, TX11, 13, rfl, by decide, w323, inG11⟩
theorem pX11_53 : zFp RX11 53 11 4 (.object "ButlerRemembers$House") true := ⟨RX11, TX11, 13, tyX11, rfl, by decide, w323, inG11, tyX11_ok, nmX11, rfl, rfl, fun _ => rfl⟩
theorem w324 : (Cond.fieldLink "ButlerRemembers" (57 : Nat) "ButlerRemembers" "houses" "[LButlerRemembers$House;") ∈ tblG := tblG_at 324 (by decide +kernel) (by decide +kernel)
theorem qX11_57 : zFg RX11 57 11 5 := ⟨RX11, TX11, 13, rfl, by decide, w324, inG11⟩
theorem pX11_57 : zFp RX11 57 11 5 (.array (.object "ButlerRemembers$House")) true := ⟨RX11, TX11, 13, tyX11, rfl, by decide, w324, inG11, tyX11_ok, nmX11, rfl, rfl, fun _ => rfl⟩
theorem w325 : (Cond.fieldLink "ButlerRemembers" (61 : Nat) "ButlerRemembers" "houseCount" "I") ∈ tblG := tblG_at 325 (by decide +kernel) (by decide +kernel)
theorem qX11_61 : zFg RX11 61 11 6 := ⟨RX11, TX11, 13, rfl, by decide, w325, inG11⟩
theorem pX11_61 : zFp RX11 61 11 6 .int false := ⟨RX11, TX11, 13, tyX11, rfl, by decide, w325, inG11, tyX11_ok, nmX11, rfl, rfl, fun q => by cases q⟩
theorem w326 : (Cond.fieldLink "ButlerRemembers" (65 : Nat) "ButlerRemembers" "text" "[B") ∈ tblG := tblG_at 326 (by decide +kernel) (by decide +kernel)
theorem qX11_65 : zFg RX11 65 11 7 := ⟨RX11, TX11, 13, rfl, by decide, w326, inG11⟩
theorem pX11_65 : zFp RX11 65 11 7 (.array .byte) true := ⟨RX11, TX11, 13, tyX11, rfl, by decide, w326, inG11, tyX11_ok, nmX11, rfl, rfl, fun _ => rfl⟩
theorem w327 : (Cond.fieldLink "ButlerRemembers" (69 : Nat) "ButlerRemembers" "textLength" "I") ∈ tblG := tblG_at 327 (by decide +kernel) (by decide +kernel)
theorem qX11_69 : zFg RX11 69 11 8 := ⟨RX11, TX11, 13, rfl, by decide, w327, inG11⟩
theorem pX11_69 : zFp RX11 69 11 8 .int false := ⟨RX11, TX11, 13, tyX11, rfl, by decide, w327, inG11, tyX11_ok, nmX11, rfl, rfl, fun q => by cases q⟩
theorem w328 : (Cond.fieldLink "ButlerRemembers" (75 : Nat) "ButlerRemembers" "turn" "LButlerRemembers$Turn;") ∈ tblG := tblG_at 328 (by decide +kernel) (by decide +kernel)
theorem qX11_75 : zFg RX11 75 11 9 := ⟨RX11, TX11, 13, rfl, by decide, w328, inG11⟩
theorem pX11_75 : zFp RX11 75 11 9 (.object "ButlerRemembers$Turn") true := ⟨RX11, TX11, 13, tyX11, rfl, by decide, w328, inG11, tyX11_ok, nmX11, rfl, rfl, fun _ => rfl⟩
theorem w329 : (Cond.fieldLink "ButlerRemembers" (81 : Nat) "ButlerRemembers" "tapes" "[LButlerRemembers$Tape;") ∈ tblG := tblG_at 329 (by decide +kernel) (by decide +kernel)
theorem qX11_81 : zFg RX11 81 11 10 := ⟨RX11, TX11, 13, rfl, by decide, w329, inG11⟩
theorem pX11_81 : zFp RX11 81 11 10 (.array (.object "ButlerRemembers$Tape")) true := ⟨RX11, TX11, 13, tyX11, rfl, by decide, w329, inG11, tyX11_ok, nmX11, rfl, rfl, fun _ => rfl⟩
theorem w330 : (Cond.fieldLink "ButlerRemembers" (85 : Nat) "ButlerRemembers" "sums" "[I") ∈ tblG := tblG_at 330 (by decide +kernel) (by decide +kernel)
theorem qX11_85 : zFg RX11 85 11 11 := ⟨RX11, TX11, 13, rfl, by decide, w330, inG11⟩
theorem pX11_85 : zFp RX11 85 11 11 (.array .int) true := ⟨RX11, TX11, 13, tyX11, rfl, by decide, w330, inG11, tyX11_ok, nmX11, rfl, rfl, fun _ => rfl⟩
theorem w331 : (Cond.fieldLink "ButlerRemembers" (89 : Nat) "ButlerRemembers" "dream" "[I") ∈ tblG := tblG_at 331 (by decide +kernel) (by decide +kernel)
theorem qX11_89 : zFg RX11 89 11 12 := ⟨RX11, TX11, 13, rfl, by decide, w331, inG11⟩
theorem pX11_89 : zFp RX11 89 11 12 (.array .int) true := ⟨RX11, TX11, 13, tyX11, rfl, by decide, w331, inG11, tyX11_ok, nmX11, rfl, rfl, fun _ => rfl⟩
theorem w110 : (Cond.fieldLink "ButlerRemembers" (104 : Nat) "ButlerRemembers$Household" "kinds" "[I") ∈ tblG := tblG_at 110 (by decide +kernel) (by decide +kernel)
theorem qX11_104 : zFg RX11 104 6 1 := ⟨RX6, TX6, 20, rfl, by decide, w110, inG6⟩
theorem w112 : (Cond.fieldLink "ButlerRemembers" (107 : Nat) "ButlerRemembers$Household" "vs" "[I") ∈ tblG := tblG_at 112 (by decide +kernel) (by decide +kernel)
theorem qX11_107 : zFg RX11 107 6 2 := ⟨RX6, TX6, 20, rfl, by decide, w112, inG6⟩
theorem w114 : (Cond.fieldLink "ButlerRemembers" (110 : Nat) "ButlerRemembers$Household" "minds" "[I") ∈ tblG := tblG_at 114 (by decide +kernel) (by decide +kernel)
theorem qX11_110 : zFg RX11 110 6 3 := ⟨RX6, TX6, 20, rfl, by decide, w114, inG6⟩
theorem w128 : (Cond.fieldLink "ButlerRemembers" (120 : Nat) "ButlerRemembers$Household" "day" "I") ∈ tblG := tblG_at 128 (by decide +kernel) (by decide +kernel)
theorem qX11_120 : zFg RX11 120 6 12 := ⟨RX6, TX6, 20, rfl, by decide, w128, inG6⟩
theorem pX11_120 : zFp RX11 120 6 12 .int false := ⟨RX6, TX6, 20, tyX6, rfl, by decide, w128, inG6, tyX6_ok, nmX6, rfl, rfl, fun q => by cases q⟩
theorem w126 : (Cond.fieldLink "ButlerRemembers" (151 : Nat) "ButlerRemembers$Household" "outs" "I") ∈ tblG := tblG_at 126 (by decide +kernel) (by decide +kernel)
theorem qX11_151 : zFg RX11 151 6 11 := ⟨RX6, TX6, 20, rfl, by decide, w126, inG6⟩
theorem pX11_151 : zFp RX11 151 6 11 .int false := ⟨RX6, TX6, 20, tyX6, rfl, by decide, w126, inG6, tyX6_ok, nmX6, rfl, rfl, fun q => by cases q⟩
theorem w116 : (Cond.fieldLink "ButlerRemembers" (157 : Nat) "ButlerRemembers$Household" "rows" "[I") ∈ tblG := tblG_at 116 (by decide +kernel) (by decide +kernel)
theorem qX11_157 : zFg RX11 157 6 4 := ⟨RX6, TX6, 20, rfl, by decide, w116, inG6⟩
theorem w130 : (Cond.fieldLink "ButlerRemembers" (164 : Nat) "ButlerRemembers$Household" "held" "I") ∈ tblG := tblG_at 130 (by decide +kernel) (by decide +kernel)
theorem qX11_164 : zFg RX11 164 6 13 := ⟨RX6, TX6, 20, rfl, by decide, w130, inG6⟩
theorem pX11_164 : zFp RX11 164 6 13 .int false := ⟨RX6, TX6, 20, tyX6, rfl, by decide, w130, inG6, tyX6_ok, nmX6, rfl, rfl, fun q => by cases q⟩
theorem w242 : (Cond.fieldLink "ButlerRemembers" (167 : Nat) "ButlerRemembers$House" "hours" "I") ∈ tblG := tblG_at 242 (by decide +kernel) (by decide +kernel)
theorem qX11_167 : zFg RX11 167 5 0 := ⟨RX5, TX5, 9, rfl, by decide, w242, inG5⟩
theorem w132 : (Cond.fieldLink "ButlerRemembers" (205 : Nat) "ButlerRemembers$Household" "seenCount" "I") ∈ tblG := tblG_at 132 (by decide +kernel) (by decide +kernel)
theorem qX11_205 : zFg RX11 205 6 14 := ⟨RX6, TX6, 20, rfl, by decide, w132, inG6⟩
theorem pX11_205 : zFp RX11 205 6 14 .int false := ⟨RX6, TX6, 20, tyX6, rfl, by decide, w132, inG6, tyX6_ok, nmX6, rfl, rfl, fun q => by cases q⟩
theorem w134 : (Cond.fieldLink "ButlerRemembers" (212 : Nat) "ButlerRemembers$Household" "seenRows" "[[I") ∈ tblG := tblG_at 134 (by decide +kernel) (by decide +kernel)
theorem qX11_212 : zFg RX11 212 6 15 := ⟨RX6, TX6, 20, rfl, by decide, w134, inG6⟩
theorem w123 : (Cond.fieldLink "ButlerRemembers" (233 : Nat) "ButlerRemembers$Household" "footmanCount" "I") ∈ tblG := tblG_at 123 (by decide +kernel) (by decide +kernel)
theorem qX11_233 : zFg RX11 233 6 9 := ⟨RX6, TX6, 20, rfl, by decide, w123, inG6⟩
theorem w108 : (Cond.fieldLink "ButlerRemembers" (240 : Nat) "ButlerRemembers$Household" "masterCount" "I") ∈ tblG := tblG_at 108 (by decide +kernel) (by decide +kernel)
theorem qX11_240 : zFg RX11 240 6 0 := ⟨RX6, TX6, 20, rfl, by decide, w108, inG6⟩
theorem w136 : (Cond.fieldLink "ButlerRemembers" (243 : Nat) "ButlerRemembers$Household" "planCount" "I") ∈ tblG := tblG_at 136 (by decide +kernel) (by decide +kernel)
theorem qX11_243 : zFg RX11 243 6 16 := ⟨RX6, TX6, 20, rfl, by decide, w136, inG6⟩
theorem pX11_243 : zFp RX11 243 6 16 .int false := ⟨RX6, TX6, 20, tyX6, rfl, by decide, w136, inG6, tyX6_ok, nmX6, rfl, rfl, fun q => by cases q⟩
theorem w138 : (Cond.fieldLink "ButlerRemembers" (249 : Nat) "ButlerRemembers$Household" "planRows" "[[I") ∈ tblG := tblG_at 138 (by decide +kernel) (by decide +kernel)
theorem qX11_249 : zFg RX11 249 6 17 := ⟨RX6, TX6, 20, rfl, by decide, w138, inG6⟩
theorem w140 : (Cond.fieldLink "ButlerRemembers" (256 : Nat) "ButlerRemembers$Household" "bookCount" "I") ∈ tblG := tblG_at 140 (by decide +kernel) (by decide +kernel)
theorem qX11_256 : zFg RX11 256 6 18 := ⟨RX6, TX6, 20, rfl, by decide, w140, inG6⟩
theorem pX11_256 : zFp RX11 256 6 18 .int false := ⟨RX6, TX6, 20, tyX6, rfl, by decide, w140, inG6, tyX6_ok, nmX6, rfl, rfl, fun q => by cases q⟩
theorem w142 : (Cond.fieldLink "ButlerRemembers" (262 : Nat) "ButlerRemembers$Household" "bookRows" "[[I") ∈ tblG := tblG_at 142 (by decide +kernel) (by decide +kernel)
theorem qX11_262 : zFg RX11 262 6 19 := ⟨RX6, TX6, 20, rfl, by decide, w142, inG6⟩
theorem w307 : (Cond.fieldLink "ButlerRemembers" (271 : Nat) "ButlerRemembers$Tape" "sort" "I") ∈ tblG := tblG_at 307 (by decide +kernel) (by decide +kernel)
theorem qX11_271 : zFg RX11 271 8 0 := ⟨RX8, TX8, 3, rfl, by decide, w307, inG8⟩
theorem w310 : (Cond.fieldLink "ButlerRemembers" (278 : Nat) "ButlerRemembers$Tape" "items" "[J") ∈ tblG := tblG_at 310 (by decide +kernel) (by decide +kernel)
theorem qX11_278 : zFg RX11 278 8 2 := ⟨RX8, TX8, 3, rfl, by decide, w310, inG8⟩
theorem w281 : (Cond.fieldLink "ButlerRemembers" (289 : Nat) "ButlerRemembers$Turn" "number" "I") ∈ tblG := tblG_at 281 (by decide +kernel) (by decide +kernel)
theorem pX11_289 : zFp RX11 289 10 0 .int false := ⟨RX10, TX10, 4, tyX10, rfl, by decide, w281, inG10, tyX10_ok, nmX10, rfl, rfl, fun q => by cases q⟩
theorem w285 : (Cond.fieldLink "ButlerRemembers" (292 : Nat) "ButlerRemembers$Turn" "v" "I") ∈ tblG := tblG_at 285 (by decide +kernel) (by decide +kernel)
theorem pX11_292 : zFp RX11 292 10 1 .int false := ⟨RX10, TX10, 4, tyX10, rfl, by decide, w285, inG10, tyX10_ok, nmX10, rfl, rfl, fun q => by cases q⟩
theorem w289 : (Cond.fieldLink "ButlerRemembers" (312 : Nat) "ButlerRemembers$Turn" "bodies" "[I") ∈ tblG := tblG_at 289 (by decide +kernel) (by decide +kernel)
theorem qX11_312 : zFg RX11 312 10 3 := ⟨RX10, TX10, 4, rfl, by decide, w289, inG10⟩
theorem w118 : (Cond.fieldLink "ButlerRemembers" (319 : Nat) "ButlerRemembers$Household" "deedCount" "I") ∈ tblG := tblG_at 118 (by decide +kernel) (by decide +kernel)
theorem qX11_319 : zFg RX11 319 6 5 := ⟨RX6, TX6, 20, rfl, by decide, w118, inG6⟩
theorem w287 : (Cond.fieldLink "ButlerRemembers" (322 : Nat) "ButlerRemembers$Turn" "ran" "I") ∈ tblG := tblG_at 287 (by decide +kernel) (by decide +kernel)
theorem qX11_322 : zFg RX11 322 10 2 := ⟨RX10, TX10, 4, rfl, by decide, w287, inG10⟩
theorem w1017 : (Cond.fieldLink "ButlerRemembersModel" (9 : Nat) "ButlerRemembersModel" "now" "[I") ∈ tblG := tblG_at 1017 (by decide +kernel) (by decide +kernel)
theorem qX12_9 : zFg RX12 9 12 0 := ⟨RX12, TX12, 28, rfl, by decide, w1017, inG12⟩
theorem pX12_9 : zFp RX12 9 12 0 (.array .int) true := ⟨RX12, TX12, 28, tyX12, rfl, by decide, w1017, inG12, tyX12_ok, nmX12, rfl, rfl, fun _ => rfl⟩
theorem w1018 : (Cond.fieldLink "ButlerRemembersModel" (15 : Nat) "ButlerRemembersModel" "mind" "[I") ∈ tblG := tblG_at 1018 (by decide +kernel) (by decide +kernel)
theorem qX12_15 : zFg RX12 15 12 1 := ⟨RX12, TX12, 28, rfl, by decide, w1018, inG12⟩
theorem pX12_15 : zFp RX12 15 12 1 (.array .int) true := ⟨RX12, TX12, 28, tyX12, rfl, by decide, w1018, inG12, tyX12_ok, nmX12, rfl, rfl, fun _ => rfl⟩
theorem w1019 : (Cond.fieldLink "ButlerRemembersModel" (18 : Nat) "ButlerRemembersModel" "then" "[I") ∈ tblG := tblG_at 1019 (by decide +kernel) (by decide +kernel)
theorem qX12_18 : zFg RX12 18 12 2 := ⟨RX12, TX12, 28, rfl, by decide, w1019, inG12⟩
theorem pX12_18 : zFp RX12 18 12 2 (.array .int) true := ⟨RX12, TX12, 28, tyX12, rfl, by decide, w1019, inG12, tyX12_ok, nmX12, rfl, rfl, fun _ => rfl⟩
theorem w1021 : (Cond.fieldLink "ButlerRemembersModel" (21 : Nat) "ButlerRemembersModel" "text" "[I") ∈ tblG := tblG_at 1021 (by decide +kernel) (by decide +kernel)
theorem qX12_21 : zFg RX12 21 12 4 := ⟨RX12, TX12, 28, rfl, by decide, w1021, inG12⟩
theorem pX12_21 : zFp RX12 21 12 4 (.array .int) true := ⟨RX12, TX12, 28, tyX12, rfl, by decide, w1021, inG12, tyX12_ok, nmX12, rfl, rfl, fun _ => rfl⟩
theorem w1023 : (Cond.fieldLink "ButlerRemembersModel" (24 : Nat) "ButlerRemembersModel" "rules" "[I") ∈ tblG := tblG_at 1023 (by decide +kernel) (by decide +kernel)
theorem qX12_24 : zFg RX12 24 12 6 := ⟨RX12, TX12, 28, rfl, by decide, w1023, inG12⟩
theorem pX12_24 : zFp RX12 24 12 6 (.array .int) true := ⟨RX12, TX12, 28, tyX12, rfl, by decide, w1023, inG12, tyX12_ok, nmX12, rfl, rfl, fun _ => rfl⟩
theorem w1024 : (Cond.fieldLink "ButlerRemembersModel" (27 : Nat) "ButlerRemembersModel" "sizes" "[I") ∈ tblG := tblG_at 1024 (by decide +kernel) (by decide +kernel)
theorem qX12_27 : zFg RX12 27 12 7 := ⟨RX12, TX12, 28, rfl, by decide, w1024, inG12⟩
theorem pX12_27 : zFp RX12 27 12 7 (.array .int) true := ⟨RX12, TX12, 28, tyX12, rfl, by decide, w1024, inG12, tyX12_ok, nmX12, rfl, rfl, fun _ => rfl⟩
theorem w1026 : (Cond.fieldLink "ButlerRemembersModel" (30 : Nat) "ButlerRemembersModel" "read" "[I") ∈ tblG := tblG_at 1026 (by decide +kernel) (by decide +kernel)
theorem qX12_30 : zFg RX12 30 12 9 := ⟨RX12, TX12, 28, rfl, by decide, w1026, inG12⟩
theorem pX12_30 : zFp RX12 30 12 9 (.array .int) true := ⟨RX12, TX12, 28, tyX12, rfl, by decide, w1026, inG12, tyX12_ok, nmX12, rfl, rfl, fun _ => rfl⟩
theorem w1033 : (Cond.fieldLink "ButlerRemembersModel" (33 : Nat) "ButlerRemembersModel" "names" "[I") ∈ tblG := tblG_at 1033 (by decide +kernel) (by decide +kernel)
theorem qX12_33 : zFg RX12 33 12 16 := ⟨RX12, TX12, 28, rfl, by decide, w1033, inG12⟩
theorem pX12_33 : zFp RX12 33 12 16 (.array .int) true := ⟨RX12, TX12, 28, tyX12, rfl, by decide, w1033, inG12, tyX12_ok, nmX12, rfl, rfl, fun _ => rfl⟩
theorem w1034 : (Cond.fieldLink "ButlerRemembersModel" (36 : Nat) "ButlerRemembersModel" "letters" "[C") ∈ tblG := tblG_at 1034 (by decide +kernel) (by decide +kernel)
theorem qX12_36 : zFg RX12 36 12 17 := ⟨RX12, TX12, 28, rfl, by decide, w1034, inG12⟩
theorem pX12_36 : zFp RX12 36 12 17 (.array .char) true := ⟨RX12, TX12, 28, tyX12, rfl, by decide, w1034, inG12, tyX12_ok, nmX12, rfl, rfl, fun _ => rfl⟩
theorem w1035 : (Cond.fieldLink "ButlerRemembersModel" (40 : Nat) "ButlerRemembersModel" "begins" "[C") ∈ tblG := tblG_at 1035 (by decide +kernel) (by decide +kernel)
theorem qX12_40 : zFg RX12 40 12 18 := ⟨RX12, TX12, 28, rfl, by decide, w1035, inG12⟩
theorem pX12_40 : zFp RX12 40 12 18 (.array .char) true := ⟨RX12, TX12, 28, tyX12, rfl, by decide, w1035, inG12, tyX12_ok, nmX12, rfl, rfl, fun _ => rfl⟩
theorem w1036 : (Cond.fieldLink "ButlerRemembersModel" (43 : Nat) "ButlerRemembersModel" "words" "[C") ∈ tblG := tblG_at 1036 (by decide +kernel) (by decide +kernel)
theorem qX12_43 : zFg RX12 43 12 19 := ⟨RX12, TX12, 28, rfl, by decide, w1036, inG12⟩
theorem pX12_43 : zFp RX12 43 12 19 (.array .char) true := ⟨RX12, TX12, 28, tyX12, rfl, by decide, w1036, inG12, tyX12_ok, nmX12, rfl, rfl, fun _ => rfl⟩
theorem w1037 : (Cond.fieldLink "ButlerRemembersModel" (46 : Nat) "ButlerRemembersModel" "above" "[I") ∈ tblG := tblG_at 1037 (by decide +kernel) (by decide +kernel)
theorem qX12_46 : zFg RX12 46 12 20 := ⟨RX12, TX12, 28, rfl, by decide, w1037, inG12⟩
theorem pX12_46 : zFp RX12 46 12 20 (.array .int) true := ⟨RX12, TX12, 28, tyX12, rfl, by decide, w1037, inG12, tyX12_ok, nmX12, rfl, rfl, fun _ => rfl⟩
theorem w1038 : (Cond.fieldLink "ButlerRemembersModel" (49 : Nat) "ButlerRemembersModel" "bodies" "[I") ∈ tblG := tblG_at 1038 (by decide +kernel) (by decide +kernel)
theorem qX12_49 : zFg RX12 49 12 21 := ⟨RX12, TX12, 28, rfl, by decide, w1038, inG12⟩
theorem pX12_49 : zFp RX12 49 12 21 (.array .int) true := ⟨RX12, TX12, 28, tyX12, rfl, by decide, w1038, inG12, tyX12_ok, nmX12, rfl, rfl, fun _ => rfl⟩
theorem w1039 : (Cond.fieldLink "ButlerRemembersModel" (52 : Nat) "ButlerRemembersModel" "trace" "[I") ∈ tblG := tblG_at 1039 (by decide +kernel) (by decide +kernel)
theorem qX12_52 : zFg RX12 52 12 22 := ⟨RX12, TX12, 28, rfl, by decide, w1039, inG12⟩
theorem pX12_52 : zFp RX12 52 12 22 (.array .int) true := ⟨RX12, TX12, 28, tyX12, rfl, by decide, w1039, inG12, tyX12_ok, nmX12, rfl, rfl, fun _ => rfl⟩
theorem w1041 : (Cond.fieldLink "ButlerRemembersModel" (55 : Nat) "ButlerRemembersModel" "sorts" "[I") ∈ tblG := tblG_at 1041 (by decide +kernel) (by decide +kernel)
theorem qX12_55 : zFg RX12 55 12 24 := ⟨RX12, TX12, 28, rfl, by decide, w1041, inG12⟩
theorem pX12_55 : zFp RX12 55 12 24 (.array .int) true := ⟨RX12, TX12, 28, tyX12, rfl, by decide, w1041, inG12, tyX12_ok, nmX12, rfl, rfl, fun _ => rfl⟩
theorem w1042 : (Cond.fieldLink "ButlerRemembersModel" (58 : Nat) "ButlerRemembersModel" "lengths" "[I") ∈ tblG := tblG_at 1042 (by decide +kernel) (by decide +kernel)
theorem qX12_58 : zFg RX12 58 12 25 := ⟨RX12, TX12, 28, rfl, by decide, w1042, inG12⟩
theorem pX12_58 : zFp RX12 58 12 25 (.array .int) true := ⟨RX12, TX12, 28, tyX12, rfl, by decide, w1042, inG12, tyX12_ok, nmX12, rfl, rfl, fun _ => rfl⟩
theorem w1043 : (Cond.fieldLink "ButlerRemembersModel" (61 : Nat) "ButlerRemembersModel" "items" "[J") ∈ tblG := tblG_at 1043 (by decide +kernel) (by decide +kernel)
theorem qX12_61 : zFg RX12 61 12 26 := ⟨RX12, TX12, 28, rfl, by decide, w1043, inG12⟩
theorem pX12_61 : zFp RX12 61 12 26 (.array .long) true := ⟨RX12, TX12, 28, tyX12, rfl, by decide, w1043, inG12, tyX12_ok, nmX12, rfl, rfl, fun _ => rfl⟩
theorem w1044 : (Cond.fieldLink "ButlerRemembersModel" (65 : Nat) "ButlerRemembersModel" "moved" "[J") ∈ tblG := tblG_at 1044 (by decide +kernel) (by decide +kernel)
theorem qX12_65 : zFg RX12 65 12 27 := ⟨RX12, TX12, 28, rfl, by decide, w1044, inG12⟩
theorem pX12_65 : zFp RX12 65 12 27 (.array .long) true := ⟨RX12, TX12, 28, tyX12, rfl, by decide, w1044, inG12, tyX12_ok, nmX12, rfl, rfl, fun _ => rfl⟩
theorem w1020 : (Cond.fieldLink "ButlerRemembersModel" (68 : Nat) "ButlerRemembersModel" "kept" "Z") ∈ tblG := tblG_at 1020 (by decide +kernel) (by decide +kernel)
theorem qX12_68 : zFg RX12 68 12 3 := ⟨RX12, TX12, 28, rfl, by decide, w1020, inG12⟩
theorem pX12_68 : zFp RX12 68 12 3 .boolean false := ⟨RX12, TX12, 28, tyX12, rfl, by decide, w1020, inG12, tyX12_ok, nmX12, rfl, rfl, fun q => by cases q⟩
theorem w1022 : (Cond.fieldLink "ButlerRemembersModel" (111 : Nat) "ButlerRemembersModel" "texted" "I") ∈ tblG := tblG_at 1022 (by decide +kernel) (by decide +kernel)
theorem qX12_111 : zFg RX12 111 12 5 := ⟨RX12, TX12, 28, rfl, by decide, w1022, inG12⟩
theorem pX12_111 : zFp RX12 111 12 5 .int false := ⟨RX12, TX12, 28, tyX12, rfl, by decide, w1022, inG12, tyX12_ok, nmX12, rfl, rfl, fun q => by cases q⟩
theorem w1029 : (Cond.fieldLink "ButlerRemembersModel" (115 : Nat) "ButlerRemembersModel" "well" "Z") ∈ tblG := tblG_at 1029 (by decide +kernel) (by decide +kernel)
theorem qX12_115 : zFg RX12 115 12 12 := ⟨RX12, TX12, 28, rfl, by decide, w1029, inG12⟩
theorem pX12_115 : zFp RX12 115 12 12 .boolean false := ⟨RX12, TX12, 28, tyX12, rfl, by decide, w1029, inG12, tyX12_ok, nmX12, rfl, rfl, fun q => by cases q⟩
theorem w1028 : (Cond.fieldLink "ButlerRemembersModel" (118 : Nat) "ButlerRemembersModel" "at" "I") ∈ tblG := tblG_at 1028 (by decide +kernel) (by decide +kernel)
theorem qX12_118 : zFg RX12 118 12 11 := ⟨RX12, TX12, 28, rfl, by decide, w1028, inG12⟩
theorem pX12_118 : zFp RX12 118 12 11 .int false := ⟨RX12, TX12, 28, tyX12, rfl, by decide, w1028, inG12, tyX12_ok, nmX12, rfl, rfl, fun q => by cases q⟩
theorem w1027 : (Cond.fieldLink "ButlerRemembersModel" (121 : Nat) "ButlerRemembersModel" "size" "I") ∈ tblG := tblG_at 1027 (by decide +kernel) (by decide +kernel)
theorem qX12_121 : zFg RX12 121 12 10 := ⟨RX12, TX12, 28, rfl, by decide, w1027, inG12⟩
theorem pX12_121 : zFp RX12 121 12 10 .int false := ⟨RX12, TX12, 28, tyX12, rfl, by decide, w1027, inG12, tyX12_ok, nmX12, rfl, rfl, fun q => by cases q⟩
theorem w1030 : (Cond.fieldLink "ButlerRemembersModel" (139 : Nat) "ButlerRemembersModel" "within" "I") ∈ tblG := tblG_at 1030 (by decide +kernel) (by decide +kernel)
theorem qX12_139 : zFg RX12 139 12 13 := ⟨RX12, TX12, 28, rfl, by decide, w1030, inG12⟩
theorem pX12_139 : zFp RX12 139 12 13 .int false := ⟨RX12, TX12, 28, tyX12, rfl, by decide, w1030, inG12, tyX12_ok, nmX12, rfl, rfl, fun q => by cases q⟩
theorem w1032 : (Cond.fieldLink "ButlerRemembersModel" (154 : Nat) "ButlerRemembersModel" "hours" "I") ∈ tblG := tblG_at 1032 (by decide +kernel) (by decide +kernel)
theorem qX12_154 : zFg RX12 154 12 15 := ⟨RX12, TX12, 28, rfl, by decide, w1032, inG12⟩
theorem pX12_154 : zFp RX12 154 12 15 .int false := ⟨RX12, TX12, 28, tyX12, rfl, by decide, w1032, inG12, tyX12_ok, nmX12, rfl, rfl, fun q => by cases q⟩
theorem w1031 : (Cond.fieldLink "ButlerRemembersModel" (157 : Nat) "ButlerRemembersModel" "sum" "I") ∈ tblG := tblG_at 1031 (by decide +kernel) (by decide +kernel)
theorem qX12_157 : zFg RX12 157 12 14 := ⟨RX12, TX12, 28, rfl, by decide, w1031, inG12⟩
theorem pX12_157 : zFp RX12 157 12 14 .int false := ⟨RX12, TX12, 28, tyX12, rfl, by decide, w1031, inG12, tyX12_ok, nmX12, rfl, rfl, fun q => by cases q⟩
theorem w1025 : (Cond.fieldLink "ButlerRemembersModel" (169 : Nat) "ButlerRemembersModel" "ruled" "I") ∈ tblG := tblG_at 1025 (by decide +kernel) (by decide +kernel)
theorem qX12_169 : zFg RX12 169 12 8 := ⟨RX12, TX12, 28, rfl, by decide, w1025, inG12⟩
theorem pX12_169 : zFp RX12 169 12 8 .int false := ⟨RX12, TX12, 28, tyX12, rfl, by decide, w1025, inG12, tyX12_ok, nmX12, rfl, rfl, fun q => by cases q⟩
theorem w1040 : (Cond.fieldLink "ButlerRemembersModel" (247 : Nat) "ButlerRemembersModel" "ran" "I") ∈ tblG := tblG_at 1040 (by decide +kernel) (by decide +kernel)
theorem qX12_247 : zFg RX12 247 12 23 := ⟨RX12, TX12, 28, rfl, by decide, w1040, inG12⟩
theorem pX12_247 : zFp RX12 247 12 23 .int false := ⟨RX12, TX12, 28, tyX12, rfl, by decide, w1040, inG12, tyX12_ok, nmX12, rfl, rfl, fun q => by cases q⟩
theorem w280 : (Cond.fieldLink "ButlerRemembers$Daughter" (17 : Nat) "ButlerRemembers$Turn" "number" "I") ∈ tblG := tblG_at 280 (by decide +kernel) (by decide +kernel)
theorem qX2_17 : zFg RX2 17 10 0 := ⟨RX10, TX10, 4, rfl, by decide, w280, inG10⟩
theorem w241 : (Cond.fieldLink "ButlerRemembers$House" (11 : Nat) "ButlerRemembers$House" "hours" "I") ∈ tblG := tblG_at 241 (by decide +kernel) (by decide +kernel)
theorem qX5_11 : zFg RX5 11 5 0 := ⟨RX5, TX5, 9, rfl, by decide, w241, inG5⟩
theorem pX5_11 : zFp RX5 11 5 0 .int false := ⟨RX5, TX5, 9, tyX5, rfl, by decide, w241, inG5, tyX5_ok, nmX5, rfl, rfl, fun q => by cases q⟩
theorem w243 : (Cond.fieldLink "ButlerRemembers$House" (15 : Nat) "ButlerRemembers$House" "steps" "[I") ∈ tblG := tblG_at 243 (by decide +kernel) (by decide +kernel)
theorem qX5_15 : zFg RX5 15 5 1 := ⟨RX5, TX5, 9, rfl, by decide, w243, inG5⟩
theorem pX5_15 : zFp RX5 15 5 1 (.array .int) true := ⟨RX5, TX5, 9, tyX5, rfl, by decide, w243, inG5, tyX5_ok, nmX5, rfl, rfl, fun _ => rfl⟩
theorem w244 : (Cond.fieldLink "ButlerRemembers$House" (19 : Nat) "ButlerRemembers$House" "stepCount" "I") ∈ tblG := tblG_at 244 (by decide +kernel) (by decide +kernel)
theorem qX5_19 : zFg RX5 19 5 2 := ⟨RX5, TX5, 9, rfl, by decide, w244, inG5⟩
theorem pX5_19 : zFp RX5 19 5 2 .int false := ⟨RX5, TX5, 9, tyX5, rfl, by decide, w244, inG5, tyX5_ok, nmX5, rfl, rfl, fun q => by cases q⟩
theorem w245 : (Cond.fieldLink "ButlerRemembers$House" (22 : Nat) "ButlerRemembers$House" "stack" "[I") ∈ tblG := tblG_at 245 (by decide +kernel) (by decide +kernel)
theorem qX5_22 : zFg RX5 22 5 3 := ⟨RX5, TX5, 9, rfl, by decide, w245, inG5⟩
theorem pX5_22 : zFp RX5 22 5 3 (.array .int) true := ⟨RX5, TX5, 9, tyX5, rfl, by decide, w245, inG5, tyX5_ok, nmX5, rfl, rfl, fun _ => rfl⟩
theorem w246 : (Cond.fieldLink "ButlerRemembers$House" (25 : Nat) "ButlerRemembers$House" "top" "I") ∈ tblG := tblG_at 246 (by decide +kernel) (by decide +kernel)
theorem qX5_25 : zFg RX5 25 5 4 := ⟨RX5, TX5, 9, rfl, by decide, w246, inG5⟩
theorem pX5_25 : zFp RX5 25 5 4 .int false := ⟨RX5, TX5, 9, tyX5, rfl, by decide, w246, inG5, tyX5_ok, nmX5, rfl, rfl, fun q => by cases q⟩
theorem w247 : (Cond.fieldLink "ButlerRemembers$House" (28 : Nat) "ButlerRemembers$House" "bytes" "[B") ∈ tblG := tblG_at 247 (by decide +kernel) (by decide +kernel)
theorem qX5_28 : zFg RX5 28 5 5 := ⟨RX5, TX5, 9, rfl, by decide, w247, inG5⟩
theorem pX5_28 : zFp RX5 28 5 5 (.array .byte) false := ⟨RX5, TX5, 9, tyX5, rfl, by decide, w247, inG5, tyX5_ok, nmX5, rfl, rfl, fun q => by cases q⟩
theorem w248 : (Cond.fieldLink "ButlerRemembers$House" (32 : Nat) "ButlerRemembers$House" "length" "I") ∈ tblG := tblG_at 248 (by decide +kernel) (by decide +kernel)
theorem qX5_32 : zFg RX5 32 5 6 := ⟨RX5, TX5, 9, rfl, by decide, w248, inG5⟩
theorem pX5_32 : zFp RX5 32 5 6 .int false := ⟨RX5, TX5, 9, tyX5, rfl, by decide, w248, inG5, tyX5_ok, nmX5, rfl, rfl, fun q => by cases q⟩
theorem w249 : (Cond.fieldLink "ButlerRemembers$House" (35 : Nat) "ButlerRemembers$House" "place" "I") ∈ tblG := tblG_at 249 (by decide +kernel) (by decide +kernel)
theorem qX5_35 : zFg RX5 35 5 7 := ⟨RX5, TX5, 9, rfl, by decide, w249, inG5⟩
theorem pX5_35 : zFp RX5 35 5 7 .int false := ⟨RX5, TX5, 9, tyX5, rfl, by decide, w249, inG5, tyX5_ok, nmX5, rfl, rfl, fun q => by cases q⟩
theorem w250 : (Cond.fieldLink "ButlerRemembers$House" (38 : Nat) "ButlerRemembers$House" "number" "I") ∈ tblG := tblG_at 250 (by decide +kernel) (by decide +kernel)
theorem qX5_38 : zFg RX5 38 5 8 := ⟨RX5, TX5, 9, rfl, by decide, w250, inG5⟩
theorem pX5_38 : zFp RX5 38 5 8 .int false := ⟨RX5, TX5, 9, tyX5, rfl, by decide, w250, inG5, tyX5_ok, nmX5, rfl, rfl, fun q => by cases q⟩
theorem w107 : (Cond.fieldLink "ButlerRemembers$Household" (9 : Nat) "ButlerRemembers$Household" "masterCount" "I") ∈ tblG := tblG_at 107 (by decide +kernel) (by decide +kernel)
theorem qX6_9 : zFg RX6 9 6 0 := ⟨RX6, TX6, 20, rfl, by decide, w107, inG6⟩
theorem pX6_9 : zFp RX6 9 6 0 .int false := ⟨RX6, TX6, 20, tyX6, rfl, by decide, w107, inG6, tyX6_ok, nmX6, rfl, rfl, fun q => by cases q⟩
theorem w109 : (Cond.fieldLink "ButlerRemembers$Household" (15 : Nat) "ButlerRemembers$Household" "kinds" "[I") ∈ tblG := tblG_at 109 (by decide +kernel) (by decide +kernel)
theorem qX6_15 : zFg RX6 15 6 1 := ⟨RX6, TX6, 20, rfl, by decide, w109, inG6⟩
theorem pX6_15 : zFp RX6 15 6 1 (.array .int) true := ⟨RX6, TX6, 20, tyX6, rfl, by decide, w109, inG6, tyX6_ok, nmX6, rfl, rfl, fun _ => rfl⟩
theorem w111 : (Cond.fieldLink "ButlerRemembers$Household" (19 : Nat) "ButlerRemembers$Household" "vs" "[I") ∈ tblG := tblG_at 111 (by decide +kernel) (by decide +kernel)
theorem qX6_19 : zFg RX6 19 6 2 := ⟨RX6, TX6, 20, rfl, by decide, w111, inG6⟩
theorem pX6_19 : zFp RX6 19 6 2 (.array .int) true := ⟨RX6, TX6, 20, tyX6, rfl, by decide, w111, inG6, tyX6_ok, nmX6, rfl, rfl, fun _ => rfl⟩
theorem w113 : (Cond.fieldLink "ButlerRemembers$Household" (22 : Nat) "ButlerRemembers$Household" "minds" "[I") ∈ tblG := tblG_at 113 (by decide +kernel) (by decide +kernel)
theorem qX6_22 : zFg RX6 22 6 3 := ⟨RX6, TX6, 20, rfl, by decide, w113, inG6⟩
theorem pX6_22 : zFp RX6 22 6 3 (.array .int) true := ⟨RX6, TX6, 20, tyX6, rfl, by decide, w113, inG6, tyX6_ok, nmX6, rfl, rfl, fun _ => rfl⟩
theorem w115 : (Cond.fieldLink "ButlerRemembers$Household" (25 : Nat) "ButlerRemembers$Household" "rows" "[I") ∈ tblG := tblG_at 115 (by decide +kernel) (by decide +kernel)
theorem qX6_25 : zFg RX6 25 6 4 := ⟨RX6, TX6, 20, rfl, by decide, w115, inG6⟩
theorem pX6_25 : zFp RX6 25 6 4 (.array .int) true := ⟨RX6, TX6, 20, tyX6, rfl, by decide, w115, inG6, tyX6_ok, nmX6, rfl, rfl, fun _ => rfl⟩
theorem w117 : (Cond.fieldLink "ButlerRemembers$Household" (28 : Nat) "ButlerRemembers$Household" "deedCount" "I") ∈ tblG := tblG_at 117 (by decide +kernel) (by decide +kernel)
theorem qX6_28 : zFg RX6 28 6 5 := ⟨RX6, TX6, 20, rfl, by decide, w117, inG6⟩
theorem pX6_28 : zFp RX6 28 6 5 .int false := ⟨RX6, TX6, 20, tyX6, rfl, by decide, w117, inG6, tyX6_ok, nmX6, rfl, rfl, fun q => by cases q⟩
theorem w119 : (Cond.fieldLink "ButlerRemembers$Household" (31 : Nat) "ButlerRemembers$Household" "deedMasters" "[I") ∈ tblG := tblG_at 119 (by decide +kernel) (by decide +kernel)
theorem qX6_31 : zFg RX6 31 6 6 := ⟨RX6, TX6, 20, rfl, by decide, w119, inG6⟩
theorem pX6_31 : zFp RX6 31 6 6 (.array .int) true := ⟨RX6, TX6, 20, tyX6, rfl, by decide, w119, inG6, tyX6_ok, nmX6, rfl, rfl, fun _ => rfl⟩
theorem w120 : (Cond.fieldLink "ButlerRemembers$Household" (34 : Nat) "ButlerRemembers$Household" "deedFacts" "[I") ∈ tblG := tblG_at 120 (by decide +kernel) (by decide +kernel)
theorem qX6_34 : zFg RX6 34 6 7 := ⟨RX6, TX6, 20, rfl, by decide, w120, inG6⟩
theorem pX6_34 : zFp RX6 34 6 7 (.array .int) true := ⟨RX6, TX6, 20, tyX6, rfl, by decide, w120, inG6, tyX6_ok, nmX6, rfl, rfl, fun _ => rfl⟩
theorem w121 : (Cond.fieldLink "ButlerRemembers$Household" (37 : Nat) "ButlerRemembers$Household" "deedDues" "[I") ∈ tblG := tblG_at 121 (by decide +kernel) (by decide +kernel)
theorem qX6_37 : zFg RX6 37 6 8 := ⟨RX6, TX6, 20, rfl, by decide, w121, inG6⟩
theorem pX6_37 : zFp RX6 37 6 8 (.array .int) true := ⟨RX6, TX6, 20, tyX6, rfl, by decide, w121, inG6, tyX6_ok, nmX6, rfl, rfl, fun _ => rfl⟩
theorem w122 : (Cond.fieldLink "ButlerRemembers$Household" (40 : Nat) "ButlerRemembers$Household" "footmanCount" "I") ∈ tblG := tblG_at 122 (by decide +kernel) (by decide +kernel)
theorem qX6_40 : zFg RX6 40 6 9 := ⟨RX6, TX6, 20, rfl, by decide, w122, inG6⟩
theorem pX6_40 : zFp RX6 40 6 9 .int false := ⟨RX6, TX6, 20, tyX6, rfl, by decide, w122, inG6, tyX6_ok, nmX6, rfl, rfl, fun q => by cases q⟩
theorem w124 : (Cond.fieldLink "ButlerRemembers$Household" (43 : Nat) "ButlerRemembers$Household" "holds" "[I") ∈ tblG := tblG_at 124 (by decide +kernel) (by decide +kernel)
theorem qX6_43 : zFg RX6 43 6 10 := ⟨RX6, TX6, 20, rfl, by decide, w124, inG6⟩
theorem pX6_43 : zFp RX6 43 6 10 (.array .int) true := ⟨RX6, TX6, 20, tyX6, rfl, by decide, w124, inG6, tyX6_ok, nmX6, rfl, rfl, fun _ => rfl⟩
theorem w125 : (Cond.fieldLink "ButlerRemembers$Household" (46 : Nat) "ButlerRemembers$Household" "outs" "I") ∈ tblG := tblG_at 125 (by decide +kernel) (by decide +kernel)
theorem qX6_46 : zFg RX6 46 6 11 := ⟨RX6, TX6, 20, rfl, by decide, w125, inG6⟩
theorem pX6_46 : zFp RX6 46 6 11 .int false := ⟨RX6, TX6, 20, tyX6, rfl, by decide, w125, inG6, tyX6_ok, nmX6, rfl, rfl, fun q => by cases q⟩
theorem w127 : (Cond.fieldLink "ButlerRemembers$Household" (49 : Nat) "ButlerRemembers$Household" "day" "I") ∈ tblG := tblG_at 127 (by decide +kernel) (by decide +kernel)
theorem qX6_49 : zFg RX6 49 6 12 := ⟨RX6, TX6, 20, rfl, by decide, w127, inG6⟩
theorem pX6_49 : zFp RX6 49 6 12 .int false := ⟨RX6, TX6, 20, tyX6, rfl, by decide, w127, inG6, tyX6_ok, nmX6, rfl, rfl, fun q => by cases q⟩
theorem w129 : (Cond.fieldLink "ButlerRemembers$Household" (52 : Nat) "ButlerRemembers$Household" "held" "I") ∈ tblG := tblG_at 129 (by decide +kernel) (by decide +kernel)
theorem qX6_52 : zFg RX6 52 6 13 := ⟨RX6, TX6, 20, rfl, by decide, w129, inG6⟩
theorem pX6_52 : zFp RX6 52 6 13 .int false := ⟨RX6, TX6, 20, tyX6, rfl, by decide, w129, inG6, tyX6_ok, nmX6, rfl, rfl, fun q => by cases q⟩
theorem w131 : (Cond.fieldLink "ButlerRemembers$Household" (55 : Nat) "ButlerRemembers$Household" "seenCount" "I") ∈ tblG := tblG_at 131 (by decide +kernel) (by decide +kernel)
theorem qX6_55 : zFg RX6 55 6 14 := ⟨RX6, TX6, 20, rfl, by decide, w131, inG6⟩
theorem pX6_55 : zFp RX6 55 6 14 .int false := ⟨RX6, TX6, 20, tyX6, rfl, by decide, w131, inG6, tyX6_ok, nmX6, rfl, rfl, fun q => by cases q⟩
theorem w133 : (Cond.fieldLink "ButlerRemembers$Household" (60 : Nat) "ButlerRemembers$Household" "seenRows" "[[I") ∈ tblG := tblG_at 133 (by decide +kernel) (by decide +kernel)
theorem qX6_60 : zFg RX6 60 6 15 := ⟨RX6, TX6, 20, rfl, by decide, w133, inG6⟩
theorem pX6_60 : zFp RX6 60 6 15 (.array (.array .int)) true := ⟨RX6, TX6, 20, tyX6, rfl, by decide, w133, inG6, tyX6_ok, nmX6, rfl, rfl, fun _ => rfl⟩
theorem w135 : (Cond.fieldLink "ButlerRemembers$Household" (63 : Nat) "ButlerRemembers$Household" "planCount" "I") ∈ tblG := tblG_at 135 (by decide +kernel) (by decide +kernel)
theorem qX6_63 : zFg RX6 63 6 16 := ⟨RX6, TX6, 20, rfl, by decide, w135, inG6⟩
theorem pX6_63 : zFp RX6 63 6 16 .int false := ⟨RX6, TX6, 20, tyX6, rfl, by decide, w135, inG6, tyX6_ok, nmX6, rfl, rfl, fun q => by cases q⟩
theorem w137 : (Cond.fieldLink "ButlerRemembers$Household" (66 : Nat) "ButlerRemembers$Household" "planRows" "[[I") ∈ tblG := tblG_at 137 (by decide +kernel) (by decide +kernel)
theorem qX6_66 : zFg RX6 66 6 17 := ⟨RX6, TX6, 20, rfl, by decide, w137, inG6⟩
theorem pX6_66 : zFp RX6 66 6 17 (.array (.array .int)) true := ⟨RX6, TX6, 20, tyX6, rfl, by decide, w137, inG6, tyX6_ok, nmX6, rfl, rfl, fun _ => rfl⟩
theorem w139 : (Cond.fieldLink "ButlerRemembers$Household" (69 : Nat) "ButlerRemembers$Household" "bookCount" "I") ∈ tblG := tblG_at 139 (by decide +kernel) (by decide +kernel)
theorem qX6_69 : zFg RX6 69 6 18 := ⟨RX6, TX6, 20, rfl, by decide, w139, inG6⟩
theorem pX6_69 : zFp RX6 69 6 18 .int false := ⟨RX6, TX6, 20, tyX6, rfl, by decide, w139, inG6, tyX6_ok, nmX6, rfl, rfl, fun q => by cases q⟩
theorem w141 : (Cond.fieldLink "ButlerRemembers$Household" (72 : Nat) "ButlerRemembers$Household" "bookRows" "[[I") ∈ tblG := tblG_at 141 (by decide +kernel) (by decide +kernel)
theorem qX6_72 : zFg RX6 72 6 19 := ⟨RX6, TX6, 20, rfl, by decide, w141, inG6⟩
theorem pX6_72 : zFp RX6 72 6 19 (.array (.array .int)) true := ⟨RX6, TX6, 20, tyX6, rfl, by decide, w141, inG6, tyX6_ok, nmX6, rfl, rfl, fun _ => rfl⟩
theorem w279 : (Cond.fieldLink "ButlerRemembers$Master" (13 : Nat) "ButlerRemembers$Turn" "number" "I") ∈ tblG := tblG_at 279 (by decide +kernel) (by decide +kernel)
theorem qX7_13 : zFg RX7 13 10 0 := ⟨RX10, TX10, 4, rfl, by decide, w279, inG10⟩
theorem w284 : (Cond.fieldLink "ButlerRemembers$Master" (23 : Nat) "ButlerRemembers$Turn" "v" "I") ∈ tblG := tblG_at 284 (by decide +kernel) (by decide +kernel)
theorem qX7_23 : zFg RX7 23 10 1 := ⟨RX10, TX10, 4, rfl, by decide, w284, inG10⟩
theorem w306 : (Cond.fieldLink "ButlerRemembers$Tape" (11 : Nat) "ButlerRemembers$Tape" "sort" "I") ∈ tblG := tblG_at 306 (by decide +kernel) (by decide +kernel)
theorem qX8_11 : zFg RX8 11 8 0 := ⟨RX8, TX8, 3, rfl, by decide, w306, inG8⟩
theorem pX8_11 : zFp RX8 11 8 0 .int false := ⟨RX8, TX8, 3, tyX8, rfl, by decide, w306, inG8, tyX8_ok, nmX8, rfl, rfl, fun q => by cases q⟩
theorem w308 : (Cond.fieldLink "ButlerRemembers$Tape" (15 : Nat) "ButlerRemembers$Tape" "size" "I") ∈ tblG := tblG_at 308 (by decide +kernel) (by decide +kernel)
theorem qX8_15 : zFg RX8 15 8 1 := ⟨RX8, TX8, 3, rfl, by decide, w308, inG8⟩
theorem pX8_15 : zFp RX8 15 8 1 .int false := ⟨RX8, TX8, 3, tyX8, rfl, by decide, w308, inG8, tyX8_ok, nmX8, rfl, rfl, fun q => by cases q⟩
theorem w309 : (Cond.fieldLink "ButlerRemembers$Tape" (18 : Nat) "ButlerRemembers$Tape" "items" "[J") ∈ tblG := tblG_at 309 (by decide +kernel) (by decide +kernel)
theorem qX8_18 : zFg RX8 18 8 2 := ⟨RX8, TX8, 3, rfl, by decide, w309, inG8⟩
theorem pX8_18 : zFp RX8 18 8 2 (.array .long) true := ⟨RX8, TX8, 3, tyX8, rfl, by decide, w309, inG8, tyX8_ok, nmX8, rfl, rfl, fun _ => rfl⟩
theorem w283 : (Cond.fieldLink "ButlerRemembers$Told" (24 : Nat) "ButlerRemembers$Turn" "v" "I") ∈ tblG := tblG_at 283 (by decide +kernel) (by decide +kernel)
theorem qX9_24 : zFg RX9 24 10 1 := ⟨RX10, TX10, 4, rfl, by decide, w283, inG10⟩
theorem w565 : (Cond.methodLink "java/lang/String" (495 : Nat) ({ cls := "java/lang/StringLatin1", name := "charAt", desc := "([BI)C" } : Jvm.MethodName)) ∈ tblG := tblG_at 565 (by decide +kernel) (by decide +kernel)
theorem w566 : (Cond.static ({ cls := "java/lang/StringLatin1", name := "charAt", desc := "([BI)C" } : Jvm.MethodName)) ∈ tblG := tblG_at 566 (by decide +kernel) (by decide +kernel)
theorem w85 : (Cond.initialized "java/lang/StringLatin1") ∈ tblG := tblG_at 85 (by decide +kernel) (by decide +kernel)
theorem w567 : (Cond.code ({ cls := "java/lang/StringLatin1", name := "charAt", desc := "([BI)C" } : Jvm.MethodName) prog_19_method_2_code (2 : Nat) (Option.some Jvm.ClassFile.FieldType.char)) ∈ tblG := tblG_at 567 (by decide +kernel) (by decide +kernel)
theorem mJ0_495 : zKS RJ0 495 yJ1_charAt_3b067 cJ1_charAt_3b067 2 (some .char) 2 := ⟨w565, w566, w85, w567, by decide, by decide, by decide, by decide +kernel⟩
theorem w576 : (Cond.methodLink "java/lang/String" (498 : Nat) ({ cls := "java/lang/StringUTF16", name := "charAt", desc := "([BI)C" } : Jvm.MethodName)) ∈ tblG := tblG_at 576 (by decide +kernel) (by decide +kernel)
theorem w577 : (Cond.static ({ cls := "java/lang/StringUTF16", name := "charAt", desc := "([BI)C" } : Jvm.MethodName)) ∈ tblG := tblG_at 577 (by decide +kernel) (by decide +kernel)
theorem w87 : (Cond.initialized "java/lang/StringUTF16") ∈ tblG := tblG_at 87 (by decide +kernel) (by decide +kernel)
theorem w578 : (Cond.code ({ cls := "java/lang/StringUTF16", name := "charAt", desc := "([BI)C" } : Jvm.MethodName) prog_20_method_83_code (2 : Nat) (Option.some Jvm.ClassFile.FieldType.char)) ∈ tblG := tblG_at 578 (by decide +kernel) (by decide +kernel)
theorem mJ0_498 : zKS RJ0 498 yJ2_charAt_3b067 cJ2_charAt_3b067 2 (some .char) 2 := ⟨w576, w577, w87, w578, by decide, by decide, by decide, by decide +kernel⟩
theorem w631 : (Cond.methodLink "java/lang/String" (637 : Nat) ({ cls := "java/lang/StringLatin1", name := "indexOf", desc := "([BIII)I" } : Jvm.MethodName)) ∈ tblG := tblG_at 631 (by decide +kernel) (by decide +kernel)
theorem w632 : (Cond.static ({ cls := "java/lang/StringLatin1", name := "indexOf", desc := "([BIII)I" } : Jvm.MethodName)) ∈ tblG := tblG_at 632 (by decide +kernel) (by decide +kernel)
theorem w633 : (Cond.code ({ cls := "java/lang/StringLatin1", name := "indexOf", desc := "([BIII)I" } : Jvm.MethodName) prog_19_method_22_code (4 : Nat) (Option.some Jvm.ClassFile.FieldType.int)) ∈ tblG := tblG_at 633 (by decide +kernel) (by decide +kernel)
theorem mJ0_637 : zKS RJ0 637 yJ1_indexOf_4cfef cJ1_indexOf_4cfef 4 (some .int) 4 := ⟨w631, w632, w85, w633, by decide, by decide, by decide, by decide +kernel⟩
theorem w644 : (Cond.methodLink "java/lang/String" (640 : Nat) ({ cls := "java/lang/StringUTF16", name := "indexOf", desc := "([BIII)I" } : Jvm.MethodName)) ∈ tblG := tblG_at 644 (by decide +kernel) (by decide +kernel)
theorem w645 : (Cond.static ({ cls := "java/lang/StringUTF16", name := "indexOf", desc := "([BIII)I" } : Jvm.MethodName)) ∈ tblG := tblG_at 645 (by decide +kernel) (by decide +kernel)
theorem w646 : (Cond.code ({ cls := "java/lang/StringUTF16", name := "indexOf", desc := "([BIII)I" } : Jvm.MethodName) prog_20_method_40_code (4 : Nat) (Option.some Jvm.ClassFile.FieldType.int)) ∈ tblG := tblG_at 646 (by decide +kernel) (by decide +kernel)
theorem mJ0_640 : zKS RJ0 640 yJ2_indexOf_4cfef cJ2_indexOf_4cfef 4 (some .int) 4 := ⟨w644, w645, w87, w646, by decide, by decide, by decide, by decide +kernel⟩
theorem w573 : (Cond.methodLink "java/lang/String" (1059 : Nat) ({ cls := "jdk/internal/util/Preconditions", name := "checkIndex", desc := "(IILjava/util/function/BiFunction;)I" } : Jvm.MethodName)) ∈ tblG := tblG_at 573 (by decide +kernel) (by decide +kernel)
theorem w574 : (Cond.static ({ cls := "jdk/internal/util/Preconditions", name := "checkIndex", desc := "(IILjava/util/function/BiFunction;)I" } : Jvm.MethodName)) ∈ tblG := tblG_at 574 (by decide +kernel) (by decide +kernel)
theorem w86 : (Cond.initialized "jdk/internal/util/Preconditions") ∈ tblG := tblG_at 86 (by decide +kernel) (by decide +kernel)
theorem w575 : (Cond.code ({ cls := "jdk/internal/util/Preconditions", name := "checkIndex", desc := "(IILjava/util/function/BiFunction;)I" } : Jvm.MethodName) prog_23_method_11_code (3 : Nat) (Option.some Jvm.ClassFile.FieldType.int)) ∈ tblG := tblG_at 575 (by decide +kernel) (by decide +kernel)
theorem mJ0_1059 : zKS RJ0 1059 yJ3_checkIndex_8e157 cJ3_checkIndex_8e157 3 (some .int) 3 := ⟨w573, w574, w86, w575, by decide, by decide, by decide, by decide +kernel⟩
theorem w659 : (Cond.methodLink "java/lang/String" (1062 : Nat) ({ cls := "jdk/internal/util/Preconditions", name := "checkFromToIndex", desc := "(IIILjava/util/function/BiFunction;)I" } : Jvm.MethodName)) ∈ tblG := tblG_at 659 (by decide +kernel) (by decide +kernel)
theorem w660 : (Cond.static ({ cls := "jdk/internal/util/Preconditions", name := "checkFromToIndex", desc := "(IIILjava/util/function/BiFunction;)I" } : Jvm.MethodName)) ∈ tblG := tblG_at 660 (by decide +kernel) (by decide +kernel)
theorem w661 : (Cond.code ({ cls := "jdk/internal/util/Preconditions", name := "checkFromToIndex", desc := "(IIILjava/util/function/BiFunction;)I" } : Jvm.MethodName) prog_23_method_12_code (4 : Nat) (Option.some Jvm.ClassFile.FieldType.int)) ∈ tblG := tblG_at 661 (by decide +kernel) (by decide +kernel)
theorem mJ0_1062 : zKS RJ0 1062 yJ3_checkFromToIndex_8c36e cJ3_checkFromToIndex_8c36e 4 (some .int) 4 := ⟨w659, w660, w86, w661, by decide, by decide, by decide, by decide +kernel⟩
theorem w568 : (Cond.methodLink "java/lang/StringLatin1" (9 : Nat) ({ cls := "java/lang/String", name := "checkIndex", desc := "(II)V" } : Jvm.MethodName)) ∈ tblG := tblG_at 568 (by decide +kernel) (by decide +kernel)
theorem w569 : (Cond.static ({ cls := "java/lang/String", name := "checkIndex", desc := "(II)V" } : Jvm.MethodName)) ∈ tblG := tblG_at 569 (by decide +kernel) (by decide +kernel)
theorem w84 : (Cond.initialized "java/lang/String") ∈ tblG := tblG_at 84 (by decide +kernel) (by decide +kernel)
theorem w570 : (Cond.code ({ cls := "java/lang/String", name := "checkIndex", desc := "(II)V" } : Jvm.MethodName) prog_18_method_155_code (2 : Nat) (Option.none : Option Jvm.ClassFile.FieldType)) ∈ tblG := tblG_at 570 (by decide +kernel) (by decide +kernel)
theorem mJ1_9 : zKS RJ1 9 yJ0_checkIndex_df160 cJ0_checkIndex_df160 2 none 2 := ⟨w568, w569, w84, w570, by decide, by decide, by decide, by decide +kernel⟩
theorem w640 : (Cond.methodLink "java/lang/StringLatin1" (38 : Nat) ({ cls := "java/lang/Math", name := "min", desc := "(II)I" } : Jvm.MethodName)) ∈ tblG := tblG_at 640 (by decide +kernel) (by decide +kernel)
theorem w532 : (Cond.static ({ cls := "java/lang/Math", name := "min", desc := "(II)I" } : Jvm.MethodName)) ∈ tblG := tblG_at 532 (by decide +kernel) (by decide +kernel)
theorem w83 : (Cond.initialized "java/lang/Math") ∈ tblG := tblG_at 83 (by decide +kernel) (by decide +kernel)
theorem w533 : (Cond.code ({ cls := "java/lang/Math", name := "min", desc := "(II)I" } : Jvm.MethodName) prog_17_method_69_code (2 : Nat) (Option.some Jvm.ClassFile.FieldType.int)) ∈ tblG := tblG_at 533 (by decide +kernel) (by decide +kernel)
theorem mJ1_38 : zKS RJ1 38 yJ9_min_7cf53 cJ9_min_7cf53 2 (some .int) 2 := ⟨w640, w532, w83, w533, by decide, by decide, by decide, by decide +kernel⟩
theorem w634 : (Cond.methodLink "java/lang/StringLatin1" (88 : Nat) ({ cls := "java/lang/StringLatin1", name := "canEncode", desc := "(I)Z" } : Jvm.MethodName)) ∈ tblG := tblG_at 634 (by decide +kernel) (by decide +kernel)
theorem w635 : (Cond.static ({ cls := "java/lang/StringLatin1", name := "canEncode", desc := "(I)Z" } : Jvm.MethodName)) ∈ tblG := tblG_at 635 (by decide +kernel) (by decide +kernel)
theorem w636 : (Cond.code ({ cls := "java/lang/StringLatin1", name := "canEncode", desc := "(I)Z" } : Jvm.MethodName) prog_19_method_4_code (1 : Nat) (Option.some Jvm.ClassFile.FieldType.boolean)) ∈ tblG := tblG_at 636 (by decide +kernel) (by decide +kernel)
theorem mJ1_88 : zKS RJ1 88 yJ1_canEncode_9a6ad cJ1_canEncode_9a6ad 1 (some .boolean) 1 := ⟨w634, w635, w85, w636, by decide, by decide, by decide, by decide +kernel⟩
theorem w637 : (Cond.methodLink "java/lang/StringLatin1" (92 : Nat) ({ cls := "java/lang/Math", name := "max", desc := "(II)I" } : Jvm.MethodName)) ∈ tblG := tblG_at 637 (by decide +kernel) (by decide +kernel)
theorem w638 : (Cond.static ({ cls := "java/lang/Math", name := "max", desc := "(II)I" } : Jvm.MethodName)) ∈ tblG := tblG_at 638 (by decide +kernel) (by decide +kernel)
theorem w639 : (Cond.code ({ cls := "java/lang/Math", name := "max", desc := "(II)I" } : Jvm.MethodName) prog_17_method_65_code (2 : Nat) (Option.some Jvm.ClassFile.FieldType.int)) ∈ tblG := tblG_at 639 (by decide +kernel) (by decide +kernel)
theorem mJ1_92 : zKS RJ1 92 yJ9_max_7cf53 cJ9_max_7cf53 2 (some .int) 2 := ⟨w637, w638, w83, w639, by decide, by decide, by decide, by decide +kernel⟩
theorem w641 : (Cond.methodLink "java/lang/StringLatin1" (95 : Nat) ({ cls := "java/lang/StringLatin1", name := "indexOfChar", desc := "([BIII)I" } : Jvm.MethodName)) ∈ tblG := tblG_at 641 (by decide +kernel) (by decide +kernel)
theorem w642 : (Cond.static ({ cls := "java/lang/StringLatin1", name := "indexOfChar", desc := "([BIII)I" } : Jvm.MethodName)) ∈ tblG := tblG_at 642 (by decide +kernel) (by decide +kernel)
theorem w643 : (Cond.code ({ cls := "java/lang/StringLatin1", name := "indexOfChar", desc := "([BIII)I" } : Jvm.MethodName) prog_19_method_23_code (6 : Nat) (Option.some Jvm.ClassFile.FieldType.int)) ∈ tblG := tblG_at 643 (by decide +kernel) (by decide +kernel)
theorem mJ1_95 : zKS RJ1 95 yJ1_indexOfChar_4cfef cJ1_indexOfChar_4cfef 6 (some .int) 4 := ⟨w641, w642, w85, w643, by decide, by decide, by decide, by decide +kernel⟩
theorem w582 : (Cond.methodLink "java/lang/StringUTF16" (48 : Nat) ({ cls := "java/lang/StringUTF16", name := "length", desc := "([B)I" } : Jvm.MethodName)) ∈ tblG := tblG_at 582 (by decide +kernel) (by decide +kernel)
theorem w583 : (Cond.static ({ cls := "java/lang/StringUTF16", name := "length", desc := "([B)I" } : Jvm.MethodName)) ∈ tblG := tblG_at 583 (by decide +kernel) (by decide +kernel)
theorem w584 : (Cond.code ({ cls := "java/lang/StringUTF16", name := "length", desc := "([B)I" } : Jvm.MethodName) prog_20_method_6_code (1 : Nat) (Option.some Jvm.ClassFile.FieldType.int)) ∈ tblG := tblG_at 584 (by decide +kernel) (by decide +kernel)
theorem mJ2_48 : zKS RJ2 48 yJ2_length_9d52b cJ2_length_9d52b 1 (some .int) 1 := ⟨w582, w583, w87, w584, by decide, by decide, by decide, by decide +kernel⟩
theorem w579 : (Cond.methodLink "java/lang/StringUTF16" (67 : Nat) ({ cls := "java/lang/StringUTF16", name := "checkIndex", desc := "(I[B)V" } : Jvm.MethodName)) ∈ tblG := tblG_at 579 (by decide +kernel) (by decide +kernel)
theorem w580 : (Cond.static ({ cls := "java/lang/StringUTF16", name := "checkIndex", desc := "(I[B)V" } : Jvm.MethodName)) ∈ tblG := tblG_at 580 (by decide +kernel) (by decide +kernel)
theorem w581 : (Cond.code ({ cls := "java/lang/StringUTF16", name := "checkIndex", desc := "(I[B)V" } : Jvm.MethodName) prog_20_method_91_code (2 : Nat) (Option.none : Option Jvm.ClassFile.FieldType)) ∈ tblG := tblG_at 581 (by decide +kernel) (by decide +kernel)
theorem mJ2_67 : zKS RJ2 67 yJ2_checkIndex_2214a cJ2_checkIndex_2214a 2 none 2 := ⟨w579, w580, w87, w581, by decide, by decide, by decide, by decide +kernel⟩
theorem w586 : (Cond.methodLink "java/lang/StringUTF16" (71 : Nat) ({ cls := "java/lang/StringUTF16", name := "getChar", desc := "([BI)C" } : Jvm.MethodName)) ∈ tblG := tblG_at 586 (by decide +kernel) (by decide +kernel)
theorem w587 : (Cond.static ({ cls := "java/lang/StringUTF16", name := "getChar", desc := "([BI)C" } : Jvm.MethodName)) ∈ tblG := tblG_at 587 (by decide +kernel) (by decide +kernel)
theorem w588 : (Cond.code ({ cls := "java/lang/StringUTF16", name := "getChar", desc := "([BI)C" } : Jvm.MethodName) prog_20_method_5_code (2 : Nat) (Option.some Jvm.ClassFile.FieldType.char)) ∈ tblG := tblG_at 588 (by decide +kernel) (by decide +kernel)
theorem mJ2_71 : zKS RJ2 71 yJ2_getChar_3b067 cJ2_getChar_3b067 2 (some .char) 2 := ⟨w586, w587, w87, w588, by decide, by decide, by decide, by decide +kernel⟩
theorem w653 : (Cond.methodLink "java/lang/StringUTF16" (96 : Nat) ({ cls := "java/lang/StringUTF16", name := "checkBoundsBeginEnd", desc := "(II[B)V" } : Jvm.MethodName)) ∈ tblG := tblG_at 653 (by decide +kernel) (by decide +kernel)
theorem w654 : (Cond.static ({ cls := "java/lang/StringUTF16", name := "checkBoundsBeginEnd", desc := "(II[B)V" } : Jvm.MethodName)) ∈ tblG := tblG_at 654 (by decide +kernel) (by decide +kernel)
theorem w655 : (Cond.code ({ cls := "java/lang/StringUTF16", name := "checkBoundsBeginEnd", desc := "(II[B)V" } : Jvm.MethodName) prog_20_method_93_code (3 : Nat) (Option.none : Option Jvm.ClassFile.FieldType)) ∈ tblG := tblG_at 655 (by decide +kernel) (by decide +kernel)
theorem mJ2_96 : zKS RJ2 96 yJ2_checkBoundsBeginEnd_d044e cJ2_checkBoundsBeginEnd_d044e 3 none 3 := ⟨w653, w654, w87, w655, by decide, by decide, by decide, by decide +kernel⟩
theorem w671 : (Cond.methodLink "java/lang/StringUTF16" (157 : Nat) ({ cls := "java/lang/Character", name := "highSurrogate", desc := "(I)C" } : Jvm.MethodName)) ∈ tblG := tblG_at 671 (by decide +kernel) (by decide +kernel)
theorem w672 : (Cond.static ({ cls := "java/lang/Character", name := "highSurrogate", desc := "(I)C" } : Jvm.MethodName)) ∈ tblG := tblG_at 672 (by decide +kernel) (by decide +kernel)
theorem w88 : (Cond.initialized "java/lang/Character") ∈ tblG := tblG_at 88 (by decide +kernel) (by decide +kernel)
theorem w673 : (Cond.code ({ cls := "java/lang/Character", name := "highSurrogate", desc := "(I)C" } : Jvm.MethodName) prog_15_method_28_code (1 : Nat) (Option.some Jvm.ClassFile.FieldType.char)) ∈ tblG := tblG_at 673 (by decide +kernel) (by decide +kernel)
theorem mJ2_157 : zKS RJ2 157 yJ11_highSurrogate_5068e cJ11_highSurrogate_5068e 1 (some .char) 1 := ⟨w671, w672, w88, w673, by decide, by decide, by decide, by decide +kernel⟩
theorem w675 : (Cond.methodLink "java/lang/StringUTF16" (161 : Nat) ({ cls := "java/lang/Character", name := "lowSurrogate", desc := "(I)C" } : Jvm.MethodName)) ∈ tblG := tblG_at 675 (by decide +kernel) (by decide +kernel)
theorem w676 : (Cond.static ({ cls := "java/lang/Character", name := "lowSurrogate", desc := "(I)C" } : Jvm.MethodName)) ∈ tblG := tblG_at 676 (by decide +kernel) (by decide +kernel)
theorem w677 : (Cond.code ({ cls := "java/lang/Character", name := "lowSurrogate", desc := "(I)C" } : Jvm.MethodName) prog_15_method_29_code (1 : Nat) (Option.some Jvm.ClassFile.FieldType.char)) ∈ tblG := tblG_at 677 (by decide +kernel) (by decide +kernel)
theorem mJ2_161 : zKS RJ2 161 yJ11_lowSurrogate_5068e cJ11_lowSurrogate_5068e 1 (some .char) 1 := ⟨w675, w676, w88, w677, by decide, by decide, by decide, by decide +kernel⟩
theorem w668 : (Cond.methodLink "java/lang/StringUTF16" (164 : Nat) ({ cls := "java/lang/Character", name := "isValidCodePoint", desc := "(I)Z" } : Jvm.MethodName)) ∈ tblG := tblG_at 668 (by decide +kernel) (by decide +kernel)
theorem w669 : (Cond.static ({ cls := "java/lang/Character", name := "isValidCodePoint", desc := "(I)Z" } : Jvm.MethodName)) ∈ tblG := tblG_at 669 (by decide +kernel) (by decide +kernel)
theorem w670 : (Cond.code ({ cls := "java/lang/Character", name := "isValidCodePoint", desc := "(I)Z" } : Jvm.MethodName) prog_15_method_11_code (2 : Nat) (Option.some Jvm.ClassFile.FieldType.boolean)) ∈ tblG := tblG_at 670 (by decide +kernel) (by decide +kernel)
theorem mJ2_164 : zKS RJ2 164 yJ11_isValidCodePoint_9a6ad cJ11_isValidCodePoint_9a6ad 2 (some .boolean) 1 := ⟨w668, w669, w88, w670, by decide, by decide, by decide, by decide +kernel⟩
theorem w648 : (Cond.methodLink "java/lang/StringUTF16" (183 : Nat) ({ cls := "java/lang/Math", name := "min", desc := "(II)I" } : Jvm.MethodName)) ∈ tblG := tblG_at 648 (by decide +kernel) (by decide +kernel)
theorem mJ2_183 : zKS RJ2 183 yJ9_min_7cf53 cJ9_min_7cf53 2 (some .int) 2 := ⟨w648, w532, w83, w533, by decide, by decide, by decide, by decide +kernel⟩
theorem w647 : (Cond.methodLink "java/lang/StringUTF16" (224 : Nat) ({ cls := "java/lang/Math", name := "max", desc := "(II)I" } : Jvm.MethodName)) ∈ tblG := tblG_at 647 (by decide +kernel) (by decide +kernel)
theorem mJ2_224 : zKS RJ2 224 yJ9_max_7cf53 cJ9_max_7cf53 2 (some .int) 2 := ⟨w647, w638, w83, w639, by decide, by decide, by decide, by decide +kernel⟩
theorem w650 : (Cond.methodLink "java/lang/StringUTF16" (228 : Nat) ({ cls := "java/lang/StringUTF16", name := "indexOfChar", desc := "([BIII)I" } : Jvm.MethodName)) ∈ tblG := tblG_at 650 (by decide +kernel) (by decide +kernel)
theorem w651 : (Cond.static ({ cls := "java/lang/StringUTF16", name := "indexOfChar", desc := "([BIII)I" } : Jvm.MethodName)) ∈ tblG := tblG_at 651 (by decide +kernel) (by decide +kernel)
theorem w652 : (Cond.code ({ cls := "java/lang/StringUTF16", name := "indexOfChar", desc := "([BIII)I" } : Jvm.MethodName) prog_20_method_47_code (4 : Nat) (Option.some Jvm.ClassFile.FieldType.int)) ∈ tblG := tblG_at 652 (by decide +kernel) (by decide +kernel)
theorem mJ2_228 : zKS RJ2 228 yJ2_indexOfChar_4cfef cJ2_indexOfChar_4cfef 4 (some .int) 4 := ⟨w650, w651, w87, w652, by decide, by decide, by decide, by decide +kernel⟩
theorem w665 : (Cond.methodLink "java/lang/StringUTF16" (232 : Nat) ({ cls := "java/lang/StringUTF16", name := "indexOfSupplementary", desc := "([BIII)I" } : Jvm.MethodName)) ∈ tblG := tblG_at 665 (by decide +kernel) (by decide +kernel)
theorem w666 : (Cond.static ({ cls := "java/lang/StringUTF16", name := "indexOfSupplementary", desc := "([BIII)I" } : Jvm.MethodName)) ∈ tblG := tblG_at 666 (by decide +kernel) (by decide +kernel)
theorem w667 : (Cond.code ({ cls := "java/lang/StringUTF16", name := "indexOfSupplementary", desc := "([BIII)I" } : Jvm.MethodName) prog_20_method_49_code (7 : Nat) (Option.some Jvm.ClassFile.FieldType.int)) ∈ tblG := tblG_at 667 (by decide +kernel) (by decide +kernel)
theorem mJ2_232 : zKS RJ2 232 yJ2_indexOfSupplementary_4cfef cJ2_indexOfSupplementary_4cfef 7 (some .int) 4 := ⟨w665, w666, w87, w667, by decide, by decide, by decide, by decide +kernel⟩
theorem w656 : (Cond.methodLink "java/lang/StringUTF16" (241 : Nat) ({ cls := "java/lang/String", name := "checkBoundsBeginEnd", desc := "(III)V" } : Jvm.MethodName)) ∈ tblG := tblG_at 656 (by decide +kernel) (by decide +kernel)
theorem w657 : (Cond.static ({ cls := "java/lang/String", name := "checkBoundsBeginEnd", desc := "(III)V" } : Jvm.MethodName)) ∈ tblG := tblG_at 657 (by decide +kernel) (by decide +kernel)
theorem w658 : (Cond.code ({ cls := "java/lang/String", name := "checkBoundsBeginEnd", desc := "(III)V" } : Jvm.MethodName) prog_18_method_158_code (3 : Nat) (Option.none : Option Jvm.ClassFile.FieldType)) ∈ tblG := tblG_at 658 (by decide +kernel) (by decide +kernel)
theorem mJ2_241 : zKS RJ2 241 yJ0_checkBoundsBeginEnd_23922 cJ0_checkBoundsBeginEnd_23922 3 none 3 := ⟨w656, w657, w84, w658, by decide, by decide, by decide, by decide +kernel⟩
theorem w662 : (Cond.methodLink "java/lang/StringUTF16" (244 : Nat) ({ cls := "java/lang/StringUTF16", name := "indexOfCharUnsafe", desc := "([BIII)I" } : Jvm.MethodName)) ∈ tblG := tblG_at 662 (by decide +kernel) (by decide +kernel)
theorem w663 : (Cond.static ({ cls := "java/lang/StringUTF16", name := "indexOfCharUnsafe", desc := "([BIII)I" } : Jvm.MethodName)) ∈ tblG := tblG_at 663 (by decide +kernel) (by decide +kernel)
theorem w664 : (Cond.code ({ cls := "java/lang/StringUTF16", name := "indexOfCharUnsafe", desc := "([BIII)I" } : Jvm.MethodName) prog_20_method_48_code (5 : Nat) (Option.some Jvm.ClassFile.FieldType.int)) ∈ tblG := tblG_at 664 (by decide +kernel) (by decide +kernel)
theorem mJ2_244 : zKS RJ2 244 yJ2_indexOfCharUnsafe_4cfef cJ2_indexOfCharUnsafe_4cfef 5 (some .int) 4 := ⟨w662, w663, w87, w664, by decide, by decide, by decide, by decide +kernel⟩
theorem w585 : (Cond.methodLink "java/lang/StringUTF16" (414 : Nat) ({ cls := "java/lang/String", name := "checkIndex", desc := "(II)V" } : Jvm.MethodName)) ∈ tblG := tblG_at 585 (by decide +kernel) (by decide +kernel)
theorem mJ2_414 : zKS RJ2 414 yJ0_checkIndex_df160 cJ0_checkIndex_df160 2 none 2 := ⟨w585, w569, w84, w570, by decide, by decide, by decide, by decide +kernel⟩
theorem w359 : (Cond.methodLink "ButlerRemembersLaw" (13 : Nat) ({ cls := "ButlerRemembers", name := "master", desc := "(II)I" } : Jvm.MethodName)) ∈ tblG := tblG_at 359 (by decide +kernel) (by decide +kernel)
theorem w360 : (Cond.instanceMethod ({ cls := "ButlerRemembers", name := "master", desc := "(II)I" } : Jvm.MethodName)) ∈ tblG := tblG_at 360 (by decide +kernel) (by decide +kernel)
theorem w361 : (Cond.selects "ButlerRemembers" ({ cls := "ButlerRemembers", name := "master", desc := "(II)I" } : Jvm.MethodName) ({ cls := "ButlerRemembers", name := "master", desc := "(II)I" } : Jvm.MethodName)) ∈ tblG := tblG_at 361 (by decide +kernel) (by decide +kernel)
theorem w69 : (Cond.initialized "ButlerRemembers") ∈ tblG := tblG_at 69 (by decide +kernel) (by decide +kernel)
theorem w362 : (Cond.code ({ cls := "ButlerRemembers", name := "master", desc := "(II)I" } : Jvm.MethodName) prog_1_method_2_code (3 : Nat) (Option.some Jvm.ClassFile.FieldType.int)) ∈ tblG := tblG_at 362 (by decide +kernel) (by decide +kernel)
theorem mL_13 : zKV RL 13 11 yX11_master cX11_master 3 (some .int) 2 := ⟨⟨_, _, rfl⟩, w359, w360, w361, w69, w362, by decide, by decide, by decide, by decide +kernel⟩
theorem w1114 : (Cond.methodLink "ButlerRemembersLaw" (17 : Nat) ({ cls := "ButlerRemembersModel", name := "master", desc := "(II)I" } : Jvm.MethodName)) ∈ tblG := tblG_at 1114 (by decide +kernel) (by decide +kernel)
theorem w1115 : (Cond.instanceMethod ({ cls := "ButlerRemembersModel", name := "master", desc := "(II)I" } : Jvm.MethodName)) ∈ tblG := tblG_at 1115 (by decide +kernel) (by decide +kernel)
theorem w1116 : (Cond.selects "ButlerRemembersModel" ({ cls := "ButlerRemembersModel", name := "master", desc := "(II)I" } : Jvm.MethodName) ({ cls := "ButlerRemembersModel", name := "master", desc := "(II)I" } : Jvm.MethodName)) ∈ tblG := tblG_at 1116 (by decide +kernel) (by decide +kernel)
theorem w81 : (Cond.initialized "ButlerRemembersModel") ∈ tblG := tblG_at 81 (by decide +kernel) (by decide +kernel)
theorem w1117 : (Cond.code ({ cls := "ButlerRemembersModel", name := "master", desc := "(II)I" } : Jvm.MethodName) prog_14_method_13_code (5 : Nat) (Option.some Jvm.ClassFile.FieldType.int)) ∈ tblG := tblG_at 1117 (by decide +kernel) (by decide +kernel)
theorem mL_17 : zKV RL 17 12 yX12_master cX12_master 5 (some .int) 2 := ⟨⟨_, _, rfl⟩, w1114, w1115, w1116, w81, w1117, by decide, by decide, by decide, by decide +kernel⟩
theorem w367 : (Cond.methodLink "ButlerRemembersLaw" (18 : Nat) ({ cls := "ButlerRemembers", name := "of", desc := "(II)I" } : Jvm.MethodName)) ∈ tblG := tblG_at 367 (by decide +kernel) (by decide +kernel)
theorem w368 : (Cond.instanceMethod ({ cls := "ButlerRemembers", name := "of", desc := "(II)I" } : Jvm.MethodName)) ∈ tblG := tblG_at 368 (by decide +kernel) (by decide +kernel)
theorem w369 : (Cond.selects "ButlerRemembers" ({ cls := "ButlerRemembers", name := "of", desc := "(II)I" } : Jvm.MethodName) ({ cls := "ButlerRemembers", name := "of", desc := "(II)I" } : Jvm.MethodName)) ∈ tblG := tblG_at 369 (by decide +kernel) (by decide +kernel)
theorem w370 : (Cond.code ({ cls := "ButlerRemembers", name := "of", desc := "(II)I" } : Jvm.MethodName) prog_1_method_3_code (3 : Nat) (Option.some Jvm.ClassFile.FieldType.int)) ∈ tblG := tblG_at 370 (by decide +kernel) (by decide +kernel)
theorem mL_18 : zKV RL 18 11 yX11_of cX11_of 3 (some .int) 2 := ⟨⟨_, _, rfl⟩, w367, w368, w369, w69, w370, by decide, by decide, by decide, by decide +kernel⟩
theorem w1121 : (Cond.methodLink "ButlerRemembersLaw" (21 : Nat) ({ cls := "ButlerRemembersModel", name := "of", desc := "(II)I" } : Jvm.MethodName)) ∈ tblG := tblG_at 1121 (by decide +kernel) (by decide +kernel)
theorem w1122 : (Cond.instanceMethod ({ cls := "ButlerRemembersModel", name := "of", desc := "(II)I" } : Jvm.MethodName)) ∈ tblG := tblG_at 1122 (by decide +kernel) (by decide +kernel)
theorem w1123 : (Cond.selects "ButlerRemembersModel" ({ cls := "ButlerRemembersModel", name := "of", desc := "(II)I" } : Jvm.MethodName) ({ cls := "ButlerRemembersModel", name := "of", desc := "(II)I" } : Jvm.MethodName)) ∈ tblG := tblG_at 1123 (by decide +kernel) (by decide +kernel)
theorem w1124 : (Cond.code ({ cls := "ButlerRemembersModel", name := "of", desc := "(II)I" } : Jvm.MethodName) prog_14_method_14_code (3 : Nat) (Option.some Jvm.ClassFile.FieldType.int)) ∈ tblG := tblG_at 1124 (by decide +kernel) (by decide +kernel)
theorem mL_21 : zKV RL 21 12 yX12_of cX12_of 3 (some .int) 2 := ⟨⟨_, _, rfl⟩, w1121, w1122, w1123, w81, w1124, by decide, by decide, by decide, by decide +kernel⟩
theorem w456 : (Cond.methodLink "ButlerRemembersLaw" (22 : Nat) ({ cls := "ButlerRemembers", name := "grip", desc := "(III)I" } : Jvm.MethodName)) ∈ tblG := tblG_at 456 (by decide +kernel) (by decide +kernel)
theorem w457 : (Cond.instanceMethod ({ cls := "ButlerRemembers", name := "grip", desc := "(III)I" } : Jvm.MethodName)) ∈ tblG := tblG_at 457 (by decide +kernel) (by decide +kernel)
theorem w458 : (Cond.selects "ButlerRemembers" ({ cls := "ButlerRemembers", name := "grip", desc := "(III)I" } : Jvm.MethodName) ({ cls := "ButlerRemembers", name := "grip", desc := "(III)I" } : Jvm.MethodName)) ∈ tblG := tblG_at 458 (by decide +kernel) (by decide +kernel)
theorem w459 : (Cond.code ({ cls := "ButlerRemembers", name := "grip", desc := "(III)I" } : Jvm.MethodName) prog_1_method_4_code (6 : Nat) (Option.some Jvm.ClassFile.FieldType.int)) ∈ tblG := tblG_at 459 (by decide +kernel) (by decide +kernel)
theorem mL_22 : zKV RL 22 11 yX11_grip cX11_grip 6 (some .int) 3 := ⟨⟨_, _, rfl⟩, w456, w457, w458, w69, w459, by decide, by decide, by decide, by decide +kernel⟩
theorem w1205 : (Cond.methodLink "ButlerRemembersLaw" (26 : Nat) ({ cls := "ButlerRemembersModel", name := "grip", desc := "(III)I" } : Jvm.MethodName)) ∈ tblG := tblG_at 1205 (by decide +kernel) (by decide +kernel)
theorem w1206 : (Cond.instanceMethod ({ cls := "ButlerRemembersModel", name := "grip", desc := "(III)I" } : Jvm.MethodName)) ∈ tblG := tblG_at 1206 (by decide +kernel) (by decide +kernel)
theorem w1207 : (Cond.selects "ButlerRemembersModel" ({ cls := "ButlerRemembersModel", name := "grip", desc := "(III)I" } : Jvm.MethodName) ({ cls := "ButlerRemembersModel", name := "grip", desc := "(III)I" } : Jvm.MethodName)) ∈ tblG := tblG_at 1207 (by decide +kernel) (by decide +kernel)
theorem w1208 : (Cond.code ({ cls := "ButlerRemembersModel", name := "grip", desc := "(III)I" } : Jvm.MethodName) prog_14_method_15_code (4 : Nat) (Option.some Jvm.ClassFile.FieldType.int)) ∈ tblG := tblG_at 1208 (by decide +kernel) (by decide +kernel)
theorem mL_26 : zKV RL 26 12 yX12_grip cX12_grip 4 (some .int) 3 := ⟨⟨_, _, rfl⟩, w1205, w1206, w1207, w81, w1208, by decide, by decide, by decide, by decide +kernel⟩
theorem w463 : (Cond.methodLink "ButlerRemembersLaw" (27 : Nat) ({ cls := "ButlerRemembers", name := "tell", desc := "(II)I" } : Jvm.MethodName)) ∈ tblG := tblG_at 463 (by decide +kernel) (by decide +kernel)
theorem w464 : (Cond.instanceMethod ({ cls := "ButlerRemembers", name := "tell", desc := "(II)I" } : Jvm.MethodName)) ∈ tblG := tblG_at 464 (by decide +kernel) (by decide +kernel)
theorem w465 : (Cond.selects "ButlerRemembers" ({ cls := "ButlerRemembers", name := "tell", desc := "(II)I" } : Jvm.MethodName) ({ cls := "ButlerRemembers", name := "tell", desc := "(II)I" } : Jvm.MethodName)) ∈ tblG := tblG_at 465 (by decide +kernel) (by decide +kernel)
theorem w466 : (Cond.code ({ cls := "ButlerRemembers", name := "tell", desc := "(II)I" } : Jvm.MethodName) prog_1_method_5_code (3 : Nat) (Option.some Jvm.ClassFile.FieldType.int)) ∈ tblG := tblG_at 466 (by decide +kernel) (by decide +kernel)
theorem mL_27 : zKV RL 27 11 yX11_tell cX11_tell 3 (some .int) 2 := ⟨⟨_, _, rfl⟩, w463, w464, w465, w69, w466, by decide, by decide, by decide, by decide +kernel⟩
theorem w1212 : (Cond.methodLink "ButlerRemembersLaw" (30 : Nat) ({ cls := "ButlerRemembersModel", name := "tell", desc := "(II)I" } : Jvm.MethodName)) ∈ tblG := tblG_at 1212 (by decide +kernel) (by decide +kernel)
theorem w1213 : (Cond.instanceMethod ({ cls := "ButlerRemembersModel", name := "tell", desc := "(II)I" } : Jvm.MethodName)) ∈ tblG := tblG_at 1213 (by decide +kernel) (by decide +kernel)
theorem w1214 : (Cond.selects "ButlerRemembersModel" ({ cls := "ButlerRemembersModel", name := "tell", desc := "(II)I" } : Jvm.MethodName) ({ cls := "ButlerRemembersModel", name := "tell", desc := "(II)I" } : Jvm.MethodName)) ∈ tblG := tblG_at 1214 (by decide +kernel) (by decide +kernel)
theorem w1215 : (Cond.code ({ cls := "ButlerRemembersModel", name := "tell", desc := "(II)I" } : Jvm.MethodName) prog_14_method_16_code (3 : Nat) (Option.some Jvm.ClassFile.FieldType.int)) ∈ tblG := tblG_at 1215 (by decide +kernel) (by decide +kernel)
theorem mL_30 : zKV RL 30 12 yX12_tell cX12_tell 3 (some .int) 2 := ⟨⟨_, _, rfl⟩, w1212, w1213, w1214, w81, w1215, by decide, by decide, by decide, by decide +kernel⟩
theorem w467 : (Cond.methodLink "ButlerRemembersLaw" (31 : Nat) ({ cls := "ButlerRemembers", name := "mind", desc := "(II)I" } : Jvm.MethodName)) ∈ tblG := tblG_at 467 (by decide +kernel) (by decide +kernel)
theorem w468 : (Cond.instanceMethod ({ cls := "ButlerRemembers", name := "mind", desc := "(II)I" } : Jvm.MethodName)) ∈ tblG := tblG_at 468 (by decide +kernel) (by decide +kernel)
theorem w469 : (Cond.selects "ButlerRemembers" ({ cls := "ButlerRemembers", name := "mind", desc := "(II)I" } : Jvm.MethodName) ({ cls := "ButlerRemembers", name := "mind", desc := "(II)I" } : Jvm.MethodName)) ∈ tblG := tblG_at 469 (by decide +kernel) (by decide +kernel)
theorem w470 : (Cond.code ({ cls := "ButlerRemembers", name := "mind", desc := "(II)I" } : Jvm.MethodName) prog_1_method_6_code (4 : Nat) (Option.some Jvm.ClassFile.FieldType.int)) ∈ tblG := tblG_at 470 (by decide +kernel) (by decide +kernel)
theorem mL_31 : zKV RL 31 11 yX11_mind cX11_mind 4 (some .int) 2 := ⟨⟨_, _, rfl⟩, w467, w468, w469, w69, w470, by decide, by decide, by decide, by decide +kernel⟩
theorem w1216 : (Cond.methodLink "ButlerRemembersLaw" (34 : Nat) ({ cls := "ButlerRemembersModel", name := "mind", desc := "(II)I" } : Jvm.MethodName)) ∈ tblG := tblG_at 1216 (by decide +kernel) (by decide +kernel)
theorem w1217 : (Cond.instanceMethod ({ cls := "ButlerRemembersModel", name := "mind", desc := "(II)I" } : Jvm.MethodName)) ∈ tblG := tblG_at 1217 (by decide +kernel) (by decide +kernel)
theorem w1218 : (Cond.selects "ButlerRemembersModel" ({ cls := "ButlerRemembersModel", name := "mind", desc := "(II)I" } : Jvm.MethodName) ({ cls := "ButlerRemembersModel", name := "mind", desc := "(II)I" } : Jvm.MethodName)) ∈ tblG := tblG_at 1218 (by decide +kernel) (by decide +kernel)
theorem w1219 : (Cond.code ({ cls := "ButlerRemembersModel", name := "mind", desc := "(II)I" } : Jvm.MethodName) prog_14_method_17_code (4 : Nat) (Option.some Jvm.ClassFile.FieldType.int)) ∈ tblG := tblG_at 1219 (by decide +kernel) (by decide +kernel)
theorem mL_34 : zKV RL 34 12 yX12_mind cX12_mind 4 (some .int) 2 := ⟨⟨_, _, rfl⟩, w1216, w1217, w1218, w81, w1219, by decide, by decide, by decide, by decide +kernel⟩
theorem w474 : (Cond.methodLink "ButlerRemembersLaw" (35 : Nat) ({ cls := "ButlerRemembers", name := "deed", desc := "(III)I" } : Jvm.MethodName)) ∈ tblG := tblG_at 474 (by decide +kernel) (by decide +kernel)
theorem w475 : (Cond.instanceMethod ({ cls := "ButlerRemembers", name := "deed", desc := "(III)I" } : Jvm.MethodName)) ∈ tblG := tblG_at 475 (by decide +kernel) (by decide +kernel)
theorem w476 : (Cond.selects "ButlerRemembers" ({ cls := "ButlerRemembers", name := "deed", desc := "(III)I" } : Jvm.MethodName) ({ cls := "ButlerRemembers", name := "deed", desc := "(III)I" } : Jvm.MethodName)) ∈ tblG := tblG_at 476 (by decide +kernel) (by decide +kernel)
theorem w477 : (Cond.code ({ cls := "ButlerRemembers", name := "deed", desc := "(III)I" } : Jvm.MethodName) prog_1_method_7_code (4 : Nat) (Option.some Jvm.ClassFile.FieldType.int)) ∈ tblG := tblG_at 477 (by decide +kernel) (by decide +kernel)
theorem mL_35 : zKV RL 35 11 yX11_deed cX11_deed 4 (some .int) 3 := ⟨⟨_, _, rfl⟩, w474, w475, w476, w69, w477, by decide, by decide, by decide, by decide +kernel⟩
theorem w1223 : (Cond.methodLink "ButlerRemembersLaw" (38 : Nat) ({ cls := "ButlerRemembersModel", name := "deed", desc := "(III)I" } : Jvm.MethodName)) ∈ tblG := tblG_at 1223 (by decide +kernel) (by decide +kernel)
theorem w1224 : (Cond.instanceMethod ({ cls := "ButlerRemembersModel", name := "deed", desc := "(III)I" } : Jvm.MethodName)) ∈ tblG := tblG_at 1224 (by decide +kernel) (by decide +kernel)
theorem w1225 : (Cond.selects "ButlerRemembersModel" ({ cls := "ButlerRemembersModel", name := "deed", desc := "(III)I" } : Jvm.MethodName) ({ cls := "ButlerRemembersModel", name := "deed", desc := "(III)I" } : Jvm.MethodName)) ∈ tblG := tblG_at 1225 (by decide +kernel) (by decide +kernel)
theorem w1226 : (Cond.code ({ cls := "ButlerRemembersModel", name := "deed", desc := "(III)I" } : Jvm.MethodName) prog_14_method_18_code (5 : Nat) (Option.some Jvm.ClassFile.FieldType.int)) ∈ tblG := tblG_at 1226 (by decide +kernel) (by decide +kernel)
theorem mL_38 : zKV RL 38 12 yX12_deed cX12_deed 5 (some .int) 3 := ⟨⟨_, _, rfl⟩, w1223, w1224, w1225, w81, w1226, by decide, by decide, by decide, by decide +kernel⟩
theorem w482 : (Cond.methodLink "ButlerRemembersLaw" (39 : Nat) ({ cls := "ButlerRemembers", name := "footman", desc := "(I)I" } : Jvm.MethodName)) ∈ tblG := tblG_at 482 (by decide +kernel) (by decide +kernel)
theorem w483 : (Cond.instanceMethod ({ cls := "ButlerRemembers", name := "footman", desc := "(I)I" } : Jvm.MethodName)) ∈ tblG := tblG_at 483 (by decide +kernel) (by decide +kernel)
theorem w484 : (Cond.selects "ButlerRemembers" ({ cls := "ButlerRemembers", name := "footman", desc := "(I)I" } : Jvm.MethodName) ({ cls := "ButlerRemembers", name := "footman", desc := "(I)I" } : Jvm.MethodName)) ∈ tblG := tblG_at 484 (by decide +kernel) (by decide +kernel)
theorem w485 : (Cond.code ({ cls := "ButlerRemembers", name := "footman", desc := "(I)I" } : Jvm.MethodName) prog_1_method_8_code (2 : Nat) (Option.some Jvm.ClassFile.FieldType.int)) ∈ tblG := tblG_at 485 (by decide +kernel) (by decide +kernel)
theorem mL_39 : zKV RL 39 11 yX11_footman cX11_footman 2 (some .int) 1 := ⟨⟨_, _, rfl⟩, w482, w483, w484, w69, w485, by decide, by decide, by decide, by decide +kernel⟩
theorem w1227 : (Cond.methodLink "ButlerRemembersLaw" (43 : Nat) ({ cls := "ButlerRemembersModel", name := "footman", desc := "(I)I" } : Jvm.MethodName)) ∈ tblG := tblG_at 1227 (by decide +kernel) (by decide +kernel)
theorem w1228 : (Cond.instanceMethod ({ cls := "ButlerRemembersModel", name := "footman", desc := "(I)I" } : Jvm.MethodName)) ∈ tblG := tblG_at 1228 (by decide +kernel) (by decide +kernel)
theorem w1229 : (Cond.selects "ButlerRemembersModel" ({ cls := "ButlerRemembersModel", name := "footman", desc := "(I)I" } : Jvm.MethodName) ({ cls := "ButlerRemembersModel", name := "footman", desc := "(I)I" } : Jvm.MethodName)) ∈ tblG := tblG_at 1229 (by decide +kernel) (by decide +kernel)
theorem w1230 : (Cond.code ({ cls := "ButlerRemembersModel", name := "footman", desc := "(I)I" } : Jvm.MethodName) prog_14_method_19_code (3 : Nat) (Option.some Jvm.ClassFile.FieldType.int)) ∈ tblG := tblG_at 1230 (by decide +kernel) (by decide +kernel)
theorem mL_43 : zKV RL 43 12 yX12_footman cX12_footman 3 (some .int) 1 := ⟨⟨_, _, rfl⟩, w1227, w1228, w1229, w81, w1230, by decide, by decide, by decide, by decide +kernel⟩
theorem w490 : (Cond.methodLink "ButlerRemembersLaw" (44 : Nat) ({ cls := "ButlerRemembers", name := "out", desc := "(IZ)I" } : Jvm.MethodName)) ∈ tblG := tblG_at 490 (by decide +kernel) (by decide +kernel)
theorem w491 : (Cond.instanceMethod ({ cls := "ButlerRemembers", name := "out", desc := "(IZ)I" } : Jvm.MethodName)) ∈ tblG := tblG_at 491 (by decide +kernel) (by decide +kernel)
theorem w492 : (Cond.selects "ButlerRemembers" ({ cls := "ButlerRemembers", name := "out", desc := "(IZ)I" } : Jvm.MethodName) ({ cls := "ButlerRemembers", name := "out", desc := "(IZ)I" } : Jvm.MethodName)) ∈ tblG := tblG_at 492 (by decide +kernel) (by decide +kernel)
theorem w493 : (Cond.code ({ cls := "ButlerRemembers", name := "out", desc := "(IZ)I" } : Jvm.MethodName) prog_1_method_9_code (5 : Nat) (Option.some Jvm.ClassFile.FieldType.int)) ∈ tblG := tblG_at 493 (by decide +kernel) (by decide +kernel)
theorem mL_44 : zKV RL 44 11 yX11_out cX11_out 5 (some .int) 2 := ⟨⟨_, _, rfl⟩, w490, w491, w492, w69, w493, by decide, by decide, by decide, by decide +kernel⟩
theorem w1231 : (Cond.methodLink "ButlerRemembersLaw" (48 : Nat) ({ cls := "ButlerRemembersModel", name := "out", desc := "(IZ)I" } : Jvm.MethodName)) ∈ tblG := tblG_at 1231 (by decide +kernel) (by decide +kernel)
theorem w1232 : (Cond.instanceMethod ({ cls := "ButlerRemembersModel", name := "out", desc := "(IZ)I" } : Jvm.MethodName)) ∈ tblG := tblG_at 1232 (by decide +kernel) (by decide +kernel)
theorem w1233 : (Cond.selects "ButlerRemembersModel" ({ cls := "ButlerRemembersModel", name := "out", desc := "(IZ)I" } : Jvm.MethodName) ({ cls := "ButlerRemembersModel", name := "out", desc := "(IZ)I" } : Jvm.MethodName)) ∈ tblG := tblG_at 1233 (by decide +kernel) (by decide +kernel)
theorem w1234 : (Cond.code ({ cls := "ButlerRemembersModel", name := "out", desc := "(IZ)I" } : Jvm.MethodName) prog_14_method_22_code (4 : Nat) (Option.some Jvm.ClassFile.FieldType.int)) ∈ tblG := tblG_at 1234 (by decide +kernel) (by decide +kernel)
theorem mL_48 : zKV RL 48 12 yX12_out cX12_out 4 (some .int) 2 := ⟨⟨_, _, rfl⟩, w1231, w1232, w1233, w81, w1234, by decide, by decide, by decide, by decide +kernel⟩
theorem w502 : (Cond.methodLink "ButlerRemembersLaw" (49 : Nat) ({ cls := "ButlerRemembers", name := "lost", desc := "(I)I" } : Jvm.MethodName)) ∈ tblG := tblG_at 502 (by decide +kernel) (by decide +kernel)
theorem w503 : (Cond.instanceMethod ({ cls := "ButlerRemembers", name := "lost", desc := "(I)I" } : Jvm.MethodName)) ∈ tblG := tblG_at 503 (by decide +kernel) (by decide +kernel)
theorem w504 : (Cond.selects "ButlerRemembers" ({ cls := "ButlerRemembers", name := "lost", desc := "(I)I" } : Jvm.MethodName) ({ cls := "ButlerRemembers", name := "lost", desc := "(I)I" } : Jvm.MethodName)) ∈ tblG := tblG_at 504 (by decide +kernel) (by decide +kernel)
theorem w505 : (Cond.code ({ cls := "ButlerRemembers", name := "lost", desc := "(I)I" } : Jvm.MethodName) prog_1_method_10_code (2 : Nat) (Option.some Jvm.ClassFile.FieldType.int)) ∈ tblG := tblG_at 505 (by decide +kernel) (by decide +kernel)
theorem mL_49 : zKV RL 49 11 yX11_lost cX11_lost 2 (some .int) 1 := ⟨⟨_, _, rfl⟩, w502, w503, w504, w69, w505, by decide, by decide, by decide, by decide +kernel⟩
theorem w1251 : (Cond.methodLink "ButlerRemembersLaw" (52 : Nat) ({ cls := "ButlerRemembersModel", name := "lost", desc := "(I)I" } : Jvm.MethodName)) ∈ tblG := tblG_at 1251 (by decide +kernel) (by decide +kernel)
theorem w1252 : (Cond.instanceMethod ({ cls := "ButlerRemembersModel", name := "lost", desc := "(I)I" } : Jvm.MethodName)) ∈ tblG := tblG_at 1252 (by decide +kernel) (by decide +kernel)
theorem w1253 : (Cond.selects "ButlerRemembersModel" ({ cls := "ButlerRemembersModel", name := "lost", desc := "(I)I" } : Jvm.MethodName) ({ cls := "ButlerRemembersModel", name := "lost", desc := "(I)I" } : Jvm.MethodName)) ∈ tblG := tblG_at 1253 (by decide +kernel) (by decide +kernel)
theorem w1254 : (Cond.code ({ cls := "ButlerRemembersModel", name := "lost", desc := "(I)I" } : Jvm.MethodName) prog_14_method_53_code (2 : Nat) (Option.some Jvm.ClassFile.FieldType.int)) ∈ tblG := tblG_at 1254 (by decide +kernel) (by decide +kernel)
theorem mL_52 : zKV RL 52 12 yX12_lost cX12_lost 2 (some .int) 1 := ⟨⟨_, _, rfl⟩, w1251, w1252, w1253, w81, w1254, by decide, by decide, by decide, by decide +kernel⟩
theorem w515 : (Cond.methodLink "ButlerRemembersLaw" (53 : Nat) ({ cls := "ButlerRemembers", name := "row", desc := "(III)I" } : Jvm.MethodName)) ∈ tblG := tblG_at 515 (by decide +kernel) (by decide +kernel)
theorem w516 : (Cond.instanceMethod ({ cls := "ButlerRemembers", name := "row", desc := "(III)I" } : Jvm.MethodName)) ∈ tblG := tblG_at 516 (by decide +kernel) (by decide +kernel)
theorem w517 : (Cond.selects "ButlerRemembers" ({ cls := "ButlerRemembers", name := "row", desc := "(III)I" } : Jvm.MethodName) ({ cls := "ButlerRemembers", name := "row", desc := "(III)I" } : Jvm.MethodName)) ∈ tblG := tblG_at 517 (by decide +kernel) (by decide +kernel)
theorem w518 : (Cond.code ({ cls := "ButlerRemembers", name := "row", desc := "(III)I" } : Jvm.MethodName) prog_1_method_11_code (6 : Nat) (Option.some Jvm.ClassFile.FieldType.int)) ∈ tblG := tblG_at 518 (by decide +kernel) (by decide +kernel)
theorem mL_53 : zKV RL 53 11 yX11_row cX11_row 6 (some .int) 3 := ⟨⟨_, _, rfl⟩, w515, w516, w517, w69, w518, by decide, by decide, by decide, by decide +kernel⟩
theorem w1239 : (Cond.methodLink "ButlerRemembersLaw" (56 : Nat) ({ cls := "ButlerRemembersModel", name := "row", desc := "(III)I" } : Jvm.MethodName)) ∈ tblG := tblG_at 1239 (by decide +kernel) (by decide +kernel)
theorem w1240 : (Cond.instanceMethod ({ cls := "ButlerRemembersModel", name := "row", desc := "(III)I" } : Jvm.MethodName)) ∈ tblG := tblG_at 1240 (by decide +kernel) (by decide +kernel)
theorem w1241 : (Cond.selects "ButlerRemembersModel" ({ cls := "ButlerRemembersModel", name := "row", desc := "(III)I" } : Jvm.MethodName) ({ cls := "ButlerRemembersModel", name := "row", desc := "(III)I" } : Jvm.MethodName)) ∈ tblG := tblG_at 1241 (by decide +kernel) (by decide +kernel)
theorem w1242 : (Cond.code ({ cls := "ButlerRemembersModel", name := "row", desc := "(III)I" } : Jvm.MethodName) prog_14_method_23_code (5 : Nat) (Option.some Jvm.ClassFile.FieldType.int)) ∈ tblG := tblG_at 1242 (by decide +kernel) (by decide +kernel)
theorem mL_56 : zKV RL 56 12 yX12_row cX12_row 5 (some .int) 3 := ⟨⟨_, _, rfl⟩, w1239, w1240, w1241, w81, w1242, by decide, by decide, by decide, by decide +kernel⟩
theorem w519 : (Cond.methodLink "ButlerRemembersLaw" (57 : Nat) ({ cls := "ButlerRemembers", name := "feed", desc := "(I)I" } : Jvm.MethodName)) ∈ tblG := tblG_at 519 (by decide +kernel) (by decide +kernel)
theorem w520 : (Cond.instanceMethod ({ cls := "ButlerRemembers", name := "feed", desc := "(I)I" } : Jvm.MethodName)) ∈ tblG := tblG_at 520 (by decide +kernel) (by decide +kernel)
theorem w521 : (Cond.selects "ButlerRemembers" ({ cls := "ButlerRemembers", name := "feed", desc := "(I)I" } : Jvm.MethodName) ({ cls := "ButlerRemembers", name := "feed", desc := "(I)I" } : Jvm.MethodName)) ∈ tblG := tblG_at 521 (by decide +kernel) (by decide +kernel)
theorem w522 : (Cond.code ({ cls := "ButlerRemembers", name := "feed", desc := "(I)I" } : Jvm.MethodName) prog_1_method_12_code (2 : Nat) (Option.some Jvm.ClassFile.FieldType.int)) ∈ tblG := tblG_at 522 (by decide +kernel) (by decide +kernel)
theorem mL_57 : zKV RL 57 11 yX11_feed cX11_feed 2 (some .int) 1 := ⟨⟨_, _, rfl⟩, w519, w520, w521, w69, w522, by decide, by decide, by decide, by decide +kernel⟩
theorem w1243 : (Cond.methodLink "ButlerRemembersLaw" (60 : Nat) ({ cls := "ButlerRemembersModel", name := "feed", desc := "(I)I" } : Jvm.MethodName)) ∈ tblG := tblG_at 1243 (by decide +kernel) (by decide +kernel)
theorem w1244 : (Cond.instanceMethod ({ cls := "ButlerRemembersModel", name := "feed", desc := "(I)I" } : Jvm.MethodName)) ∈ tblG := tblG_at 1244 (by decide +kernel) (by decide +kernel)
theorem w1245 : (Cond.selects "ButlerRemembersModel" ({ cls := "ButlerRemembersModel", name := "feed", desc := "(I)I" } : Jvm.MethodName) ({ cls := "ButlerRemembersModel", name := "feed", desc := "(I)I" } : Jvm.MethodName)) ∈ tblG := tblG_at 1245 (by decide +kernel) (by decide +kernel)
theorem w1246 : (Cond.code ({ cls := "ButlerRemembersModel", name := "feed", desc := "(I)I" } : Jvm.MethodName) prog_14_method_24_code (2 : Nat) (Option.some Jvm.ClassFile.FieldType.int)) ∈ tblG := tblG_at 1246 (by decide +kernel) (by decide +kernel)
theorem mL_60 : zKV RL 60 12 yX12_feed cX12_feed 2 (some .int) 1 := ⟨⟨_, _, rfl⟩, w1243, w1244, w1245, w81, w1246, by decide, by decide, by decide, by decide +kernel⟩
theorem w523 : (Cond.methodLink "ButlerRemembersLaw" (61 : Nat) ({ cls := "ButlerRemembers", name := "house", desc := "()I" } : Jvm.MethodName)) ∈ tblG := tblG_at 523 (by decide +kernel) (by decide +kernel)
theorem w524 : (Cond.instanceMethod ({ cls := "ButlerRemembers", name := "house", desc := "()I" } : Jvm.MethodName)) ∈ tblG := tblG_at 524 (by decide +kernel) (by decide +kernel)
theorem w525 : (Cond.selects "ButlerRemembers" ({ cls := "ButlerRemembers", name := "house", desc := "()I" } : Jvm.MethodName) ({ cls := "ButlerRemembers", name := "house", desc := "()I" } : Jvm.MethodName)) ∈ tblG := tblG_at 525 (by decide +kernel) (by decide +kernel)
theorem w526 : (Cond.code ({ cls := "ButlerRemembers", name := "house", desc := "()I" } : Jvm.MethodName) prog_1_method_13_code (2 : Nat) (Option.some Jvm.ClassFile.FieldType.int)) ∈ tblG := tblG_at 526 (by decide +kernel) (by decide +kernel)
theorem mL_61 : zKV RL 61 11 yX11_house cX11_house 2 (some .int) 0 := ⟨⟨_, _, rfl⟩, w523, w524, w525, w69, w526, by decide, by decide, by decide, by decide +kernel⟩
theorem w1247 : (Cond.methodLink "ButlerRemembersLaw" (65 : Nat) ({ cls := "ButlerRemembersModel", name := "house", desc := "()I" } : Jvm.MethodName)) ∈ tblG := tblG_at 1247 (by decide +kernel) (by decide +kernel)
theorem w1248 : (Cond.instanceMethod ({ cls := "ButlerRemembersModel", name := "house", desc := "()I" } : Jvm.MethodName)) ∈ tblG := tblG_at 1248 (by decide +kernel) (by decide +kernel)
theorem w1249 : (Cond.selects "ButlerRemembersModel" ({ cls := "ButlerRemembersModel", name := "house", desc := "()I" } : Jvm.MethodName) ({ cls := "ButlerRemembersModel", name := "house", desc := "()I" } : Jvm.MethodName)) ∈ tblG := tblG_at 1249 (by decide +kernel) (by decide +kernel)
theorem w1250 : (Cond.code ({ cls := "ButlerRemembersModel", name := "house", desc := "()I" } : Jvm.MethodName) prog_14_method_36_code (2 : Nat) (Option.some Jvm.ClassFile.FieldType.int)) ∈ tblG := tblG_at 1250 (by decide +kernel) (by decide +kernel)
theorem mL_65 : zKV RL 65 12 yX12_house cX12_house 2 (some .int) 0 := ⟨⟨_, _, rfl⟩, w1247, w1248, w1249, w81, w1250, by decide, by decide, by decide, by decide +kernel⟩
theorem w692 : (Cond.methodLink "ButlerRemembersLaw" (66 : Nat) ({ cls := "ButlerRemembers", name := "told", desc := "(I)I" } : Jvm.MethodName)) ∈ tblG := tblG_at 692 (by decide +kernel) (by decide +kernel)
theorem w693 : (Cond.instanceMethod ({ cls := "ButlerRemembers", name := "told", desc := "(I)I" } : Jvm.MethodName)) ∈ tblG := tblG_at 693 (by decide +kernel) (by decide +kernel)
theorem w694 : (Cond.selects "ButlerRemembers" ({ cls := "ButlerRemembers", name := "told", desc := "(I)I" } : Jvm.MethodName) ({ cls := "ButlerRemembers", name := "told", desc := "(I)I" } : Jvm.MethodName)) ∈ tblG := tblG_at 694 (by decide +kernel) (by decide +kernel)
theorem w695 : (Cond.code ({ cls := "ButlerRemembers", name := "told", desc := "(I)I" } : Jvm.MethodName) prog_1_method_14_code (2 : Nat) (Option.some Jvm.ClassFile.FieldType.int)) ∈ tblG := tblG_at 695 (by decide +kernel) (by decide +kernel)
theorem mL_66 : zKV RL 66 11 yX11_told cX11_told 2 (some .int) 1 := ⟨⟨_, _, rfl⟩, w692, w693, w694, w69, w695, by decide, by decide, by decide, by decide +kernel⟩
theorem w1267 : (Cond.methodLink "ButlerRemembersLaw" (69 : Nat) ({ cls := "ButlerRemembersModel", name := "told", desc := "(I)I" } : Jvm.MethodName)) ∈ tblG := tblG_at 1267 (by decide +kernel) (by decide +kernel)
theorem w1268 : (Cond.instanceMethod ({ cls := "ButlerRemembersModel", name := "told", desc := "(I)I" } : Jvm.MethodName)) ∈ tblG := tblG_at 1268 (by decide +kernel) (by decide +kernel)
theorem w1269 : (Cond.selects "ButlerRemembersModel" ({ cls := "ButlerRemembersModel", name := "told", desc := "(I)I" } : Jvm.MethodName) ({ cls := "ButlerRemembersModel", name := "told", desc := "(I)I" } : Jvm.MethodName)) ∈ tblG := tblG_at 1269 (by decide +kernel) (by decide +kernel)
theorem w1270 : (Cond.code ({ cls := "ButlerRemembersModel", name := "told", desc := "(I)I" } : Jvm.MethodName) prog_14_method_56_code (2 : Nat) (Option.some Jvm.ClassFile.FieldType.int)) ∈ tblG := tblG_at 1270 (by decide +kernel) (by decide +kernel)
theorem mL_69 : zKV RL 69 12 yX12_told cX12_told 2 (some .int) 1 := ⟨⟨_, _, rfl⟩, w1267, w1268, w1269, w81, w1270, by decide, by decide, by decide, by decide +kernel⟩
theorem w750 : (Cond.methodLink "ButlerRemembersLaw" (70 : Nat) ({ cls := "ButlerRemembers", name := "pass", desc := "(I)I" } : Jvm.MethodName)) ∈ tblG := tblG_at 750 (by decide +kernel) (by decide +kernel)
theorem w751 : (Cond.instanceMethod ({ cls := "ButlerRemembers", name := "pass", desc := "(I)I" } : Jvm.MethodName)) ∈ tblG := tblG_at 751 (by decide +kernel) (by decide +kernel)
theorem w752 : (Cond.selects "ButlerRemembers" ({ cls := "ButlerRemembers", name := "pass", desc := "(I)I" } : Jvm.MethodName) ({ cls := "ButlerRemembers", name := "pass", desc := "(I)I" } : Jvm.MethodName)) ∈ tblG := tblG_at 752 (by decide +kernel) (by decide +kernel)
theorem w753 : (Cond.code ({ cls := "ButlerRemembers", name := "pass", desc := "(I)I" } : Jvm.MethodName) prog_1_method_15_code (2 : Nat) (Option.some Jvm.ClassFile.FieldType.int)) ∈ tblG := tblG_at 753 (by decide +kernel) (by decide +kernel)
theorem mL_70 : zKV RL 70 11 yX11_pass cX11_pass 2 (some .int) 1 := ⟨⟨_, _, rfl⟩, w750, w751, w752, w69, w753, by decide, by decide, by decide, by decide +kernel⟩
theorem w1315 : (Cond.methodLink "ButlerRemembersLaw" (73 : Nat) ({ cls := "ButlerRemembersModel", name := "pass", desc := "(I)I" } : Jvm.MethodName)) ∈ tblG := tblG_at 1315 (by decide +kernel) (by decide +kernel)
theorem w1316 : (Cond.instanceMethod ({ cls := "ButlerRemembersModel", name := "pass", desc := "(I)I" } : Jvm.MethodName)) ∈ tblG := tblG_at 1316 (by decide +kernel) (by decide +kernel)
theorem w1317 : (Cond.selects "ButlerRemembersModel" ({ cls := "ButlerRemembersModel", name := "pass", desc := "(I)I" } : Jvm.MethodName) ({ cls := "ButlerRemembersModel", name := "pass", desc := "(I)I" } : Jvm.MethodName)) ∈ tblG := tblG_at 1317 (by decide +kernel) (by decide +kernel)
theorem w1318 : (Cond.code ({ cls := "ButlerRemembersModel", name := "pass", desc := "(I)I" } : Jvm.MethodName) prog_14_method_57_code (3 : Nat) (Option.some Jvm.ClassFile.FieldType.int)) ∈ tblG := tblG_at 1318 (by decide +kernel) (by decide +kernel)
theorem mL_73 : zKV RL 73 12 yX12_pass cX12_pass 3 (some .int) 1 := ⟨⟨_, _, rfl⟩, w1315, w1316, w1317, w81, w1318, by decide, by decide, by decide, by decide +kernel⟩
theorem w754 : (Cond.methodLink "ButlerRemembersLaw" (74 : Nat) ({ cls := "ButlerRemembers", name := "on", desc := "(II)I" } : Jvm.MethodName)) ∈ tblG := tblG_at 754 (by decide +kernel) (by decide +kernel)
theorem w755 : (Cond.instanceMethod ({ cls := "ButlerRemembers", name := "on", desc := "(II)I" } : Jvm.MethodName)) ∈ tblG := tblG_at 755 (by decide +kernel) (by decide +kernel)
theorem w756 : (Cond.selects "ButlerRemembers" ({ cls := "ButlerRemembers", name := "on", desc := "(II)I" } : Jvm.MethodName) ({ cls := "ButlerRemembers", name := "on", desc := "(II)I" } : Jvm.MethodName)) ∈ tblG := tblG_at 756 (by decide +kernel) (by decide +kernel)
theorem w757 : (Cond.code ({ cls := "ButlerRemembers", name := "on", desc := "(II)I" } : Jvm.MethodName) prog_1_method_16_code (4 : Nat) (Option.some Jvm.ClassFile.FieldType.int)) ∈ tblG := tblG_at 757 (by decide +kernel) (by decide +kernel)
theorem mL_74 : zKV RL 74 11 yX11_on cX11_on 4 (some .int) 2 := ⟨⟨_, _, rfl⟩, w754, w755, w756, w69, w757, by decide, by decide, by decide, by decide +kernel⟩
theorem w1319 : (Cond.methodLink "ButlerRemembersLaw" (77 : Nat) ({ cls := "ButlerRemembersModel", name := "on", desc := "(II)I" } : Jvm.MethodName)) ∈ tblG := tblG_at 1319 (by decide +kernel) (by decide +kernel)
theorem w1320 : (Cond.instanceMethod ({ cls := "ButlerRemembersModel", name := "on", desc := "(II)I" } : Jvm.MethodName)) ∈ tblG := tblG_at 1320 (by decide +kernel) (by decide +kernel)
theorem w1321 : (Cond.selects "ButlerRemembersModel" ({ cls := "ButlerRemembersModel", name := "on", desc := "(II)I" } : Jvm.MethodName) ({ cls := "ButlerRemembersModel", name := "on", desc := "(II)I" } : Jvm.MethodName)) ∈ tblG := tblG_at 1321 (by decide +kernel) (by decide +kernel)
theorem w1322 : (Cond.code ({ cls := "ButlerRemembersModel", name := "on", desc := "(II)I" } : Jvm.MethodName) prog_14_method_59_code (4 : Nat) (Option.some Jvm.ClassFile.FieldType.int)) ∈ tblG := tblG_at 1322 (by decide +kernel) (by decide +kernel)
theorem mL_77 : zKV RL 77 12 yX12_on cX12_on 4 (some .int) 2 := ⟨⟨_, _, rfl⟩, w1319, w1320, w1321, w81, w1322, by decide, by decide, by decide, by decide +kernel⟩
theorem w766 : (Cond.methodLink "ButlerRemembersLaw" (78 : Nat) ({ cls := "ButlerRemembers", name := "see", desc := "(IIIZ)I" } : Jvm.MethodName)) ∈ tblG := tblG_at 766 (by decide +kernel) (by decide +kernel)
theorem w767 : (Cond.instanceMethod ({ cls := "ButlerRemembers", name := "see", desc := "(IIIZ)I" } : Jvm.MethodName)) ∈ tblG := tblG_at 767 (by decide +kernel) (by decide +kernel)
theorem w768 : (Cond.selects "ButlerRemembers" ({ cls := "ButlerRemembers", name := "see", desc := "(IIIZ)I" } : Jvm.MethodName) ({ cls := "ButlerRemembers", name := "see", desc := "(IIIZ)I" } : Jvm.MethodName)) ∈ tblG := tblG_at 768 (by decide +kernel) (by decide +kernel)
theorem w769 : (Cond.code ({ cls := "ButlerRemembers", name := "see", desc := "(IIIZ)I" } : Jvm.MethodName) prog_1_method_17_code (5 : Nat) (Option.some Jvm.ClassFile.FieldType.int)) ∈ tblG := tblG_at 769 (by decide +kernel) (by decide +kernel)
theorem mL_78 : zKV RL 78 11 yX11_see cX11_see 5 (some .int) 4 := ⟨⟨_, _, rfl⟩, w766, w767, w768, w69, w769, by decide, by decide, by decide, by decide +kernel⟩
theorem w1331 : (Cond.methodLink "ButlerRemembersLaw" (82 : Nat) ({ cls := "ButlerRemembersModel", name := "see", desc := "(IIIZ)I" } : Jvm.MethodName)) ∈ tblG := tblG_at 1331 (by decide +kernel) (by decide +kernel)
theorem w1332 : (Cond.instanceMethod ({ cls := "ButlerRemembersModel", name := "see", desc := "(IIIZ)I" } : Jvm.MethodName)) ∈ tblG := tblG_at 1332 (by decide +kernel) (by decide +kernel)
theorem w1333 : (Cond.selects "ButlerRemembersModel" ({ cls := "ButlerRemembersModel", name := "see", desc := "(IIIZ)I" } : Jvm.MethodName) ({ cls := "ButlerRemembersModel", name := "see", desc := "(IIIZ)I" } : Jvm.MethodName)) ∈ tblG := tblG_at 1333 (by decide +kernel) (by decide +kernel)
theorem w1334 : (Cond.code ({ cls := "ButlerRemembersModel", name := "see", desc := "(IIIZ)I" } : Jvm.MethodName) prog_14_method_60_code (6 : Nat) (Option.some Jvm.ClassFile.FieldType.int)) ∈ tblG := tblG_at 1334 (by decide +kernel) (by decide +kernel)
theorem mL_82 : zKV RL 82 12 yX12_see cX12_see 6 (some .int) 4 := ⟨⟨_, _, rfl⟩, w1331, w1332, w1333, w81, w1334, by decide, by decide, by decide, by decide +kernel⟩
theorem w774 : (Cond.methodLink "ButlerRemembersLaw" (83 : Nat) ({ cls := "ButlerRemembers", name := "wrong", desc := "()I" } : Jvm.MethodName)) ∈ tblG := tblG_at 774 (by decide +kernel) (by decide +kernel)
theorem w775 : (Cond.instanceMethod ({ cls := "ButlerRemembers", name := "wrong", desc := "()I" } : Jvm.MethodName)) ∈ tblG := tblG_at 775 (by decide +kernel) (by decide +kernel)
theorem w776 : (Cond.selects "ButlerRemembers" ({ cls := "ButlerRemembers", name := "wrong", desc := "()I" } : Jvm.MethodName) ({ cls := "ButlerRemembers", name := "wrong", desc := "()I" } : Jvm.MethodName)) ∈ tblG := tblG_at 776 (by decide +kernel) (by decide +kernel)
theorem w777 : (Cond.code ({ cls := "ButlerRemembers", name := "wrong", desc := "()I" } : Jvm.MethodName) prog_1_method_18_code (3 : Nat) (Option.some Jvm.ClassFile.FieldType.int)) ∈ tblG := tblG_at 777 (by decide +kernel) (by decide +kernel)
theorem mL_83 : zKV RL 83 11 yX11_wrong cX11_wrong 3 (some .int) 0 := ⟨⟨_, _, rfl⟩, w774, w775, w776, w69, w777, by decide, by decide, by decide, by decide +kernel⟩
theorem w1335 : (Cond.methodLink "ButlerRemembersLaw" (86 : Nat) ({ cls := "ButlerRemembersModel", name := "wrong", desc := "()I" } : Jvm.MethodName)) ∈ tblG := tblG_at 1335 (by decide +kernel) (by decide +kernel)
theorem w1336 : (Cond.instanceMethod ({ cls := "ButlerRemembersModel", name := "wrong", desc := "()I" } : Jvm.MethodName)) ∈ tblG := tblG_at 1336 (by decide +kernel) (by decide +kernel)
theorem w1337 : (Cond.selects "ButlerRemembersModel" ({ cls := "ButlerRemembersModel", name := "wrong", desc := "()I" } : Jvm.MethodName) ({ cls := "ButlerRemembersModel", name := "wrong", desc := "()I" } : Jvm.MethodName)) ∈ tblG := tblG_at 1337 (by decide +kernel) (by decide +kernel)
theorem w1338 : (Cond.code ({ cls := "ButlerRemembersModel", name := "wrong", desc := "()I" } : Jvm.MethodName) prog_14_method_62_code (2 : Nat) (Option.some Jvm.ClassFile.FieldType.int)) ∈ tblG := tblG_at 1338 (by decide +kernel) (by decide +kernel)
theorem mL_86 : zKV RL 86 12 yX12_wrong cX12_wrong 2 (some .int) 0 := ⟨⟨_, _, rfl⟩, w1335, w1336, w1337, w81, w1338, by decide, by decide, by decide, by decide +kernel⟩
theorem w782 : (Cond.methodLink "ButlerRemembersLaw" (87 : Nat) ({ cls := "ButlerRemembers", name := "can", desc := "(II)I" } : Jvm.MethodName)) ∈ tblG := tblG_at 782 (by decide +kernel) (by decide +kernel)
theorem w783 : (Cond.instanceMethod ({ cls := "ButlerRemembers", name := "can", desc := "(II)I" } : Jvm.MethodName)) ∈ tblG := tblG_at 783 (by decide +kernel) (by decide +kernel)
theorem w784 : (Cond.selects "ButlerRemembers" ({ cls := "ButlerRemembers", name := "can", desc := "(II)I" } : Jvm.MethodName) ({ cls := "ButlerRemembers", name := "can", desc := "(II)I" } : Jvm.MethodName)) ∈ tblG := tblG_at 784 (by decide +kernel) (by decide +kernel)
theorem w785 : (Cond.code ({ cls := "ButlerRemembers", name := "can", desc := "(II)I" } : Jvm.MethodName) prog_1_method_19_code (6 : Nat) (Option.some Jvm.ClassFile.FieldType.int)) ∈ tblG := tblG_at 785 (by decide +kernel) (by decide +kernel)
theorem mL_87 : zKV RL 87 11 yX11_can cX11_can 6 (some .int) 2 := ⟨⟨_, _, rfl⟩, w782, w783, w784, w69, w785, by decide, by decide, by decide, by decide +kernel⟩
theorem w1343 : (Cond.methodLink "ButlerRemembersLaw" (90 : Nat) ({ cls := "ButlerRemembersModel", name := "can", desc := "(II)I" } : Jvm.MethodName)) ∈ tblG := tblG_at 1343 (by decide +kernel) (by decide +kernel)
theorem w1344 : (Cond.instanceMethod ({ cls := "ButlerRemembersModel", name := "can", desc := "(II)I" } : Jvm.MethodName)) ∈ tblG := tblG_at 1344 (by decide +kernel) (by decide +kernel)
theorem w1345 : (Cond.selects "ButlerRemembersModel" ({ cls := "ButlerRemembersModel", name := "can", desc := "(II)I" } : Jvm.MethodName) ({ cls := "ButlerRemembersModel", name := "can", desc := "(II)I" } : Jvm.MethodName)) ∈ tblG := tblG_at 1345 (by decide +kernel) (by decide +kernel)
theorem w1346 : (Cond.code ({ cls := "ButlerRemembersModel", name := "can", desc := "(II)I" } : Jvm.MethodName) prog_14_method_63_code (9 : Nat) (Option.some Jvm.ClassFile.FieldType.int)) ∈ tblG := tblG_at 1346 (by decide +kernel) (by decide +kernel)
theorem mL_90 : zKV RL 90 12 yX12_can cX12_can 9 (some .int) 2 := ⟨⟨_, _, rfl⟩, w1343, w1344, w1345, w81, w1346, by decide, by decide, by decide, by decide +kernel⟩
theorem w793 : (Cond.methodLink "ButlerRemembersLaw" (91 : Nat) ({ cls := "ButlerRemembers", name := "knew", desc := "(IIII)I" } : Jvm.MethodName)) ∈ tblG := tblG_at 793 (by decide +kernel) (by decide +kernel)
theorem w794 : (Cond.instanceMethod ({ cls := "ButlerRemembers", name := "knew", desc := "(IIII)I" } : Jvm.MethodName)) ∈ tblG := tblG_at 794 (by decide +kernel) (by decide +kernel)
theorem w795 : (Cond.selects "ButlerRemembers" ({ cls := "ButlerRemembers", name := "knew", desc := "(IIII)I" } : Jvm.MethodName) ({ cls := "ButlerRemembers", name := "knew", desc := "(IIII)I" } : Jvm.MethodName)) ∈ tblG := tblG_at 795 (by decide +kernel) (by decide +kernel)
theorem w796 : (Cond.code ({ cls := "ButlerRemembers", name := "knew", desc := "(IIII)I" } : Jvm.MethodName) prog_1_method_20_code (7 : Nat) (Option.some Jvm.ClassFile.FieldType.int)) ∈ tblG := tblG_at 796 (by decide +kernel) (by decide +kernel)
theorem mL_91 : zKV RL 91 11 yX11_knew cX11_knew 7 (some .int) 4 := ⟨⟨_, _, rfl⟩, w793, w794, w795, w69, w796, by decide, by decide, by decide, by decide +kernel⟩
theorem w1347 : (Cond.methodLink "ButlerRemembersLaw" (95 : Nat) ({ cls := "ButlerRemembersModel", name := "knew", desc := "(IIII)I" } : Jvm.MethodName)) ∈ tblG := tblG_at 1347 (by decide +kernel) (by decide +kernel)
theorem w1348 : (Cond.instanceMethod ({ cls := "ButlerRemembersModel", name := "knew", desc := "(IIII)I" } : Jvm.MethodName)) ∈ tblG := tblG_at 1348 (by decide +kernel) (by decide +kernel)
theorem w1349 : (Cond.selects "ButlerRemembersModel" ({ cls := "ButlerRemembersModel", name := "knew", desc := "(IIII)I" } : Jvm.MethodName) ({ cls := "ButlerRemembersModel", name := "knew", desc := "(IIII)I" } : Jvm.MethodName)) ∈ tblG := tblG_at 1349 (by decide +kernel) (by decide +kernel)
theorem w1350 : (Cond.code ({ cls := "ButlerRemembersModel", name := "knew", desc := "(IIII)I" } : Jvm.MethodName) prog_14_method_64_code (10 : Nat) (Option.some Jvm.ClassFile.FieldType.int)) ∈ tblG := tblG_at 1350 (by decide +kernel) (by decide +kernel)
theorem mL_95 : zKV RL 95 12 yX12_knew cX12_knew 10 (some .int) 4 := ⟨⟨_, _, rfl⟩, w1347, w1348, w1349, w81, w1350, by decide, by decide, by decide, by decide +kernel⟩
theorem w797 : (Cond.methodLink "ButlerRemembersLaw" (96 : Nat) ({ cls := "ButlerRemembers", name := "odds", desc := "(II)J" } : Jvm.MethodName)) ∈ tblG := tblG_at 797 (by decide +kernel) (by decide +kernel)
theorem w798 : (Cond.instanceMethod ({ cls := "ButlerRemembers", name := "odds", desc := "(II)J" } : Jvm.MethodName)) ∈ tblG := tblG_at 798 (by decide +kernel) (by decide +kernel)
theorem w799 : (Cond.selects "ButlerRemembers" ({ cls := "ButlerRemembers", name := "odds", desc := "(II)J" } : Jvm.MethodName) ({ cls := "ButlerRemembers", name := "odds", desc := "(II)J" } : Jvm.MethodName)) ∈ tblG := tblG_at 799 (by decide +kernel) (by decide +kernel)
theorem w800 : (Cond.code ({ cls := "ButlerRemembers", name := "odds", desc := "(II)J" } : Jvm.MethodName) prog_1_method_21_code (5 : Nat) (Option.some Jvm.ClassFile.FieldType.long)) ∈ tblG := tblG_at 800 (by decide +kernel) (by decide +kernel)
theorem mL_96 : zKV RL 96 11 yX11_odds cX11_odds 5 (some .long) 2 := ⟨⟨_, _, rfl⟩, w797, w798, w799, w69, w800, by decide, by decide, by decide, by decide +kernel⟩
theorem w1351 : (Cond.methodLink "ButlerRemembersLaw" (100 : Nat) ({ cls := "ButlerRemembersModel", name := "odds", desc := "(II)J" } : Jvm.MethodName)) ∈ tblG := tblG_at 1351 (by decide +kernel) (by decide +kernel)
theorem w1352 : (Cond.instanceMethod ({ cls := "ButlerRemembersModel", name := "odds", desc := "(II)J" } : Jvm.MethodName)) ∈ tblG := tblG_at 1352 (by decide +kernel) (by decide +kernel)
theorem w1353 : (Cond.selects "ButlerRemembersModel" ({ cls := "ButlerRemembersModel", name := "odds", desc := "(II)J" } : Jvm.MethodName) ({ cls := "ButlerRemembersModel", name := "odds", desc := "(II)J" } : Jvm.MethodName)) ∈ tblG := tblG_at 1353 (by decide +kernel) (by decide +kernel)
theorem w1354 : (Cond.code ({ cls := "ButlerRemembersModel", name := "odds", desc := "(II)J" } : Jvm.MethodName) prog_14_method_66_code (5 : Nat) (Option.some Jvm.ClassFile.FieldType.long)) ∈ tblG := tblG_at 1354 (by decide +kernel) (by decide +kernel)
theorem mL_100 : zKV RL 100 12 yX12_odds cX12_odds 5 (some .long) 2 := ⟨⟨_, _, rfl⟩, w1351, w1352, w1353, w81, w1354, by decide, by decide, by decide, by decide +kernel⟩
theorem w805 : (Cond.methodLink "ButlerRemembersLaw" (101 : Nat) ({ cls := "ButlerRemembers", name := "mean", desc := "(II)J" } : Jvm.MethodName)) ∈ tblG := tblG_at 805 (by decide +kernel) (by decide +kernel)
theorem w806 : (Cond.instanceMethod ({ cls := "ButlerRemembers", name := "mean", desc := "(II)J" } : Jvm.MethodName)) ∈ tblG := tblG_at 806 (by decide +kernel) (by decide +kernel)
theorem w807 : (Cond.selects "ButlerRemembers" ({ cls := "ButlerRemembers", name := "mean", desc := "(II)J" } : Jvm.MethodName) ({ cls := "ButlerRemembers", name := "mean", desc := "(II)J" } : Jvm.MethodName)) ∈ tblG := tblG_at 807 (by decide +kernel) (by decide +kernel)
theorem w808 : (Cond.code ({ cls := "ButlerRemembers", name := "mean", desc := "(II)J" } : Jvm.MethodName) prog_1_method_22_code (3 : Nat) (Option.some Jvm.ClassFile.FieldType.long)) ∈ tblG := tblG_at 808 (by decide +kernel) (by decide +kernel)
theorem mL_101 : zKV RL 101 11 yX11_mean cX11_mean 3 (some .long) 2 := ⟨⟨_, _, rfl⟩, w805, w806, w807, w69, w808, by decide, by decide, by decide, by decide +kernel⟩
theorem w1359 : (Cond.methodLink "ButlerRemembersLaw" (104 : Nat) ({ cls := "ButlerRemembersModel", name := "mean", desc := "(II)J" } : Jvm.MethodName)) ∈ tblG := tblG_at 1359 (by decide +kernel) (by decide +kernel)
theorem w1360 : (Cond.instanceMethod ({ cls := "ButlerRemembersModel", name := "mean", desc := "(II)J" } : Jvm.MethodName)) ∈ tblG := tblG_at 1360 (by decide +kernel) (by decide +kernel)
theorem w1361 : (Cond.selects "ButlerRemembersModel" ({ cls := "ButlerRemembersModel", name := "mean", desc := "(II)J" } : Jvm.MethodName) ({ cls := "ButlerRemembersModel", name := "mean", desc := "(II)J" } : Jvm.MethodName)) ∈ tblG := tblG_at 1361 (by decide +kernel) (by decide +kernel)
theorem w1362 : (Cond.code ({ cls := "ButlerRemembersModel", name := "mean", desc := "(II)J" } : Jvm.MethodName) prog_14_method_67_code (3 : Nat) (Option.some Jvm.ClassFile.FieldType.long)) ∈ tblG := tblG_at 1362 (by decide +kernel) (by decide +kernel)
theorem mL_104 : zKV RL 104 12 yX12_mean cX12_mean 3 (some .long) 2 := ⟨⟨_, _, rfl⟩, w1359, w1360, w1361, w81, w1362, by decide, by decide, by decide, by decide +kernel⟩
theorem w809 : (Cond.methodLink "ButlerRemembersLaw" (105 : Nat) ({ cls := "ButlerRemembers", name := "plan", desc := "(II)I" } : Jvm.MethodName)) ∈ tblG := tblG_at 809 (by decide +kernel) (by decide +kernel)
theorem w810 : (Cond.instanceMethod ({ cls := "ButlerRemembers", name := "plan", desc := "(II)I" } : Jvm.MethodName)) ∈ tblG := tblG_at 810 (by decide +kernel) (by decide +kernel)
theorem w811 : (Cond.selects "ButlerRemembers" ({ cls := "ButlerRemembers", name := "plan", desc := "(II)I" } : Jvm.MethodName) ({ cls := "ButlerRemembers", name := "plan", desc := "(II)I" } : Jvm.MethodName)) ∈ tblG := tblG_at 811 (by decide +kernel) (by decide +kernel)
theorem w812 : (Cond.code ({ cls := "ButlerRemembers", name := "plan", desc := "(II)I" } : Jvm.MethodName) prog_1_method_23_code (3 : Nat) (Option.some Jvm.ClassFile.FieldType.int)) ∈ tblG := tblG_at 812 (by decide +kernel) (by decide +kernel)
theorem mL_105 : zKV RL 105 11 yX11_plan cX11_plan 3 (some .int) 2 := ⟨⟨_, _, rfl⟩, w809, w810, w811, w69, w812, by decide, by decide, by decide, by decide +kernel⟩
theorem w1364 : (Cond.methodLink "ButlerRemembersLaw" (108 : Nat) ({ cls := "ButlerRemembersModel", name := "plan", desc := "(II)I" } : Jvm.MethodName)) ∈ tblG := tblG_at 1364 (by decide +kernel) (by decide +kernel)
theorem w1365 : (Cond.instanceMethod ({ cls := "ButlerRemembersModel", name := "plan", desc := "(II)I" } : Jvm.MethodName)) ∈ tblG := tblG_at 1365 (by decide +kernel) (by decide +kernel)
theorem w1366 : (Cond.selects "ButlerRemembersModel" ({ cls := "ButlerRemembersModel", name := "plan", desc := "(II)I" } : Jvm.MethodName) ({ cls := "ButlerRemembersModel", name := "plan", desc := "(II)I" } : Jvm.MethodName)) ∈ tblG := tblG_at 1366 (by decide +kernel) (by decide +kernel)
theorem w1367 : (Cond.code ({ cls := "ButlerRemembersModel", name := "plan", desc := "(II)I" } : Jvm.MethodName) prog_14_method_68_code (4 : Nat) (Option.some Jvm.ClassFile.FieldType.int)) ∈ tblG := tblG_at 1367 (by decide +kernel) (by decide +kernel)
theorem mL_108 : zKV RL 108 12 yX12_plan cX12_plan 4 (some .int) 2 := ⟨⟨_, _, rfl⟩, w1364, w1365, w1366, w81, w1367, by decide, by decide, by decide, by decide +kernel⟩
theorem w817 : (Cond.methodLink "ButlerRemembersLaw" (109 : Nat) ({ cls := "ButlerRemembers", name := "ends", desc := "(I)I" } : Jvm.MethodName)) ∈ tblG := tblG_at 817 (by decide +kernel) (by decide +kernel)
theorem w818 : (Cond.instanceMethod ({ cls := "ButlerRemembers", name := "ends", desc := "(I)I" } : Jvm.MethodName)) ∈ tblG := tblG_at 818 (by decide +kernel) (by decide +kernel)
theorem w819 : (Cond.selects "ButlerRemembers" ({ cls := "ButlerRemembers", name := "ends", desc := "(I)I" } : Jvm.MethodName) ({ cls := "ButlerRemembers", name := "ends", desc := "(I)I" } : Jvm.MethodName)) ∈ tblG := tblG_at 819 (by decide +kernel) (by decide +kernel)
theorem w820 : (Cond.code ({ cls := "ButlerRemembers", name := "ends", desc := "(I)I" } : Jvm.MethodName) prog_1_method_24_code (4 : Nat) (Option.some Jvm.ClassFile.FieldType.int)) ∈ tblG := tblG_at 820 (by decide +kernel) (by decide +kernel)
theorem mL_109 : zKV RL 109 11 yX11_ends cX11_ends 4 (some .int) 1 := ⟨⟨_, _, rfl⟩, w817, w818, w819, w69, w820, by decide, by decide, by decide, by decide +kernel⟩
theorem w1368 : (Cond.methodLink "ButlerRemembersLaw" (112 : Nat) ({ cls := "ButlerRemembersModel", name := "ends", desc := "(I)I" } : Jvm.MethodName)) ∈ tblG := tblG_at 1368 (by decide +kernel) (by decide +kernel)
theorem w1369 : (Cond.instanceMethod ({ cls := "ButlerRemembersModel", name := "ends", desc := "(I)I" } : Jvm.MethodName)) ∈ tblG := tblG_at 1369 (by decide +kernel) (by decide +kernel)
theorem w1370 : (Cond.selects "ButlerRemembersModel" ({ cls := "ButlerRemembersModel", name := "ends", desc := "(I)I" } : Jvm.MethodName) ({ cls := "ButlerRemembersModel", name := "ends", desc := "(I)I" } : Jvm.MethodName)) ∈ tblG := tblG_at 1370 (by decide +kernel) (by decide +kernel)
theorem w1371 : (Cond.code ({ cls := "ButlerRemembersModel", name := "ends", desc := "(I)I" } : Jvm.MethodName) prog_14_method_69_code (5 : Nat) (Option.some Jvm.ClassFile.FieldType.int)) ∈ tblG := tblG_at 1371 (by decide +kernel) (by decide +kernel)
theorem mL_112 : zKV RL 112 12 yX12_ends cX12_ends 5 (some .int) 1 := ⟨⟨_, _, rfl⟩, w1368, w1369, w1370, w81, w1371, by decide, by decide, by decide, by decide +kernel⟩
theorem w825 : (Cond.methodLink "ButlerRemembersLaw" (113 : Nat) ({ cls := "ButlerRemembers", name := "book", desc := "(II)I" } : Jvm.MethodName)) ∈ tblG := tblG_at 825 (by decide +kernel) (by decide +kernel)
theorem w826 : (Cond.instanceMethod ({ cls := "ButlerRemembers", name := "book", desc := "(II)I" } : Jvm.MethodName)) ∈ tblG := tblG_at 826 (by decide +kernel) (by decide +kernel)
theorem w827 : (Cond.selects "ButlerRemembers" ({ cls := "ButlerRemembers", name := "book", desc := "(II)I" } : Jvm.MethodName) ({ cls := "ButlerRemembers", name := "book", desc := "(II)I" } : Jvm.MethodName)) ∈ tblG := tblG_at 827 (by decide +kernel) (by decide +kernel)
theorem w828 : (Cond.code ({ cls := "ButlerRemembers", name := "book", desc := "(II)I" } : Jvm.MethodName) prog_1_method_25_code (3 : Nat) (Option.some Jvm.ClassFile.FieldType.int)) ∈ tblG := tblG_at 828 (by decide +kernel) (by decide +kernel)
theorem mL_113 : zKV RL 113 11 yX11_book cX11_book 3 (some .int) 2 := ⟨⟨_, _, rfl⟩, w825, w826, w827, w69, w828, by decide, by decide, by decide, by decide +kernel⟩
theorem w1372 : (Cond.methodLink "ButlerRemembersLaw" (116 : Nat) ({ cls := "ButlerRemembersModel", name := "book", desc := "(II)I" } : Jvm.MethodName)) ∈ tblG := tblG_at 1372 (by decide +kernel) (by decide +kernel)
theorem w1373 : (Cond.instanceMethod ({ cls := "ButlerRemembersModel", name := "book", desc := "(II)I" } : Jvm.MethodName)) ∈ tblG := tblG_at 1373 (by decide +kernel) (by decide +kernel)
theorem w1374 : (Cond.selects "ButlerRemembersModel" ({ cls := "ButlerRemembersModel", name := "book", desc := "(II)I" } : Jvm.MethodName) ({ cls := "ButlerRemembersModel", name := "book", desc := "(II)I" } : Jvm.MethodName)) ∈ tblG := tblG_at 1374 (by decide +kernel) (by decide +kernel)
theorem w1375 : (Cond.code ({ cls := "ButlerRemembersModel", name := "book", desc := "(II)I" } : Jvm.MethodName) prog_14_method_70_code (3 : Nat) (Option.some Jvm.ClassFile.FieldType.int)) ∈ tblG := tblG_at 1375 (by decide +kernel) (by decide +kernel)
theorem mL_116 : zKV RL 116 12 yX12_book cX12_book 3 (some .int) 2 := ⟨⟨_, _, rfl⟩, w1372, w1373, w1374, w81, w1375, by decide, by decide, by decide, by decide +kernel⟩
theorem w833 : (Cond.methodLink "ButlerRemembersLaw" (117 : Nat) ({ cls := "ButlerRemembers", name := "looked", desc := "()I" } : Jvm.MethodName)) ∈ tblG := tblG_at 833 (by decide +kernel) (by decide +kernel)
theorem w834 : (Cond.instanceMethod ({ cls := "ButlerRemembers", name := "looked", desc := "()I" } : Jvm.MethodName)) ∈ tblG := tblG_at 834 (by decide +kernel) (by decide +kernel)
theorem w835 : (Cond.selects "ButlerRemembers" ({ cls := "ButlerRemembers", name := "looked", desc := "()I" } : Jvm.MethodName) ({ cls := "ButlerRemembers", name := "looked", desc := "()I" } : Jvm.MethodName)) ∈ tblG := tblG_at 835 (by decide +kernel) (by decide +kernel)
theorem w836 : (Cond.code ({ cls := "ButlerRemembers", name := "looked", desc := "()I" } : Jvm.MethodName) prog_1_method_26_code (3 : Nat) (Option.some Jvm.ClassFile.FieldType.int)) ∈ tblG := tblG_at 836 (by decide +kernel) (by decide +kernel)
theorem mL_117 : zKV RL 117 11 yX11_looked cX11_looked 3 (some .int) 0 := ⟨⟨_, _, rfl⟩, w833, w834, w835, w69, w836, by decide, by decide, by decide, by decide +kernel⟩
theorem w1376 : (Cond.methodLink "ButlerRemembersLaw" (120 : Nat) ({ cls := "ButlerRemembersModel", name := "looked", desc := "()I" } : Jvm.MethodName)) ∈ tblG := tblG_at 1376 (by decide +kernel) (by decide +kernel)
theorem w1377 : (Cond.instanceMethod ({ cls := "ButlerRemembersModel", name := "looked", desc := "()I" } : Jvm.MethodName)) ∈ tblG := tblG_at 1377 (by decide +kernel) (by decide +kernel)
theorem w1378 : (Cond.selects "ButlerRemembersModel" ({ cls := "ButlerRemembersModel", name := "looked", desc := "()I" } : Jvm.MethodName) ({ cls := "ButlerRemembersModel", name := "looked", desc := "()I" } : Jvm.MethodName)) ∈ tblG := tblG_at 1378 (by decide +kernel) (by decide +kernel)
theorem w1379 : (Cond.code ({ cls := "ButlerRemembersModel", name := "looked", desc := "()I" } : Jvm.MethodName) prog_14_method_71_code (2 : Nat) (Option.some Jvm.ClassFile.FieldType.int)) ∈ tblG := tblG_at 1379 (by decide +kernel) (by decide +kernel)
theorem mL_120 : zKV RL 120 12 yX12_looked cX12_looked 2 (some .int) 0 := ⟨⟨_, _, rfl⟩, w1376, w1377, w1378, w81, w1379, by decide, by decide, by decide, by decide +kernel⟩
theorem w837 : (Cond.methodLink "ButlerRemembersLaw" (121 : Nat) ({ cls := "ButlerRemembers", name := "judge", desc := "(II)I" } : Jvm.MethodName)) ∈ tblG := tblG_at 837 (by decide +kernel) (by decide +kernel)
theorem w838 : (Cond.instanceMethod ({ cls := "ButlerRemembers", name := "judge", desc := "(II)I" } : Jvm.MethodName)) ∈ tblG := tblG_at 838 (by decide +kernel) (by decide +kernel)
theorem w839 : (Cond.selects "ButlerRemembers" ({ cls := "ButlerRemembers", name := "judge", desc := "(II)I" } : Jvm.MethodName) ({ cls := "ButlerRemembers", name := "judge", desc := "(II)I" } : Jvm.MethodName)) ∈ tblG := tblG_at 839 (by decide +kernel) (by decide +kernel)
theorem w840 : (Cond.code ({ cls := "ButlerRemembers", name := "judge", desc := "(II)I" } : Jvm.MethodName) prog_1_method_27_code (7 : Nat) (Option.some Jvm.ClassFile.FieldType.int)) ∈ tblG := tblG_at 840 (by decide +kernel) (by decide +kernel)
theorem mL_121 : zKV RL 121 11 yX11_judge cX11_judge 7 (some .int) 2 := ⟨⟨_, _, rfl⟩, w837, w838, w839, w69, w840, by decide, by decide, by decide, by decide +kernel⟩
theorem w1428 : (Cond.methodLink "ButlerRemembersLaw" (124 : Nat) ({ cls := "ButlerRemembersModel", name := "judge", desc := "(II)I" } : Jvm.MethodName)) ∈ tblG := tblG_at 1428 (by decide +kernel) (by decide +kernel)
theorem w1429 : (Cond.instanceMethod ({ cls := "ButlerRemembersModel", name := "judge", desc := "(II)I" } : Jvm.MethodName)) ∈ tblG := tblG_at 1429 (by decide +kernel) (by decide +kernel)
theorem w1430 : (Cond.selects "ButlerRemembersModel" ({ cls := "ButlerRemembersModel", name := "judge", desc := "(II)I" } : Jvm.MethodName) ({ cls := "ButlerRemembersModel", name := "judge", desc := "(II)I" } : Jvm.MethodName)) ∈ tblG := tblG_at 1430 (by decide +kernel) (by decide +kernel)
theorem w1431 : (Cond.code ({ cls := "ButlerRemembersModel", name := "judge", desc := "(II)I" } : Jvm.MethodName) prog_14_method_84_code (6 : Nat) (Option.some Jvm.ClassFile.FieldType.int)) ∈ tblG := tblG_at 1431 (by decide +kernel) (by decide +kernel)
theorem mL_124 : zKV RL 124 12 yX12_judge cX12_judge 6 (some .int) 2 := ⟨⟨_, _, rfl⟩, w1428, w1429, w1430, w81, w1431, by decide, by decide, by decide, by decide +kernel⟩
theorem w853 : (Cond.methodLink "ButlerRemembersLaw" (125 : Nat) ({ cls := "ButlerRemembers", name := "image", desc := "()I" } : Jvm.MethodName)) ∈ tblG := tblG_at 853 (by decide +kernel) (by decide +kernel)
theorem w854 : (Cond.instanceMethod ({ cls := "ButlerRemembers", name := "image", desc := "()I" } : Jvm.MethodName)) ∈ tblG := tblG_at 854 (by decide +kernel) (by decide +kernel)
theorem w855 : (Cond.selects "ButlerRemembers" ({ cls := "ButlerRemembers", name := "image", desc := "()I" } : Jvm.MethodName) ({ cls := "ButlerRemembers", name := "image", desc := "()I" } : Jvm.MethodName)) ∈ tblG := tblG_at 855 (by decide +kernel) (by decide +kernel)
theorem w856 : (Cond.code ({ cls := "ButlerRemembers", name := "image", desc := "()I" } : Jvm.MethodName) prog_1_method_28_code (1 : Nat) (Option.some Jvm.ClassFile.FieldType.int)) ∈ tblG := tblG_at 856 (by decide +kernel) (by decide +kernel)
theorem mL_125 : zKV RL 125 11 yX11_image cX11_image 1 (some .int) 0 := ⟨⟨_, _, rfl⟩, w853, w854, w855, w69, w856, by decide, by decide, by decide, by decide +kernel⟩
theorem w1103 : (Cond.methodLink "ButlerRemembersLaw" (128 : Nat) ({ cls := "ButlerRemembersModel", name := "image", desc := "()I" } : Jvm.MethodName)) ∈ tblG := tblG_at 1103 (by decide +kernel) (by decide +kernel)
theorem w1104 : (Cond.instanceMethod ({ cls := "ButlerRemembersModel", name := "image", desc := "()I" } : Jvm.MethodName)) ∈ tblG := tblG_at 1104 (by decide +kernel) (by decide +kernel)
theorem w1105 : (Cond.selects "ButlerRemembersModel" ({ cls := "ButlerRemembersModel", name := "image", desc := "()I" } : Jvm.MethodName) ({ cls := "ButlerRemembersModel", name := "image", desc := "()I" } : Jvm.MethodName)) ∈ tblG := tblG_at 1105 (by decide +kernel) (by decide +kernel)
theorem w1106 : (Cond.code ({ cls := "ButlerRemembersModel", name := "image", desc := "()I" } : Jvm.MethodName) prog_14_method_4_code (1 : Nat) (Option.some Jvm.ClassFile.FieldType.int)) ∈ tblG := tblG_at 1106 (by decide +kernel) (by decide +kernel)
theorem mL_128 : zKV RL 128 12 yX12_image cX12_image 1 (some .int) 0 := ⟨⟨_, _, rfl⟩, w1103, w1104, w1105, w81, w1106, by decide, by decide, by decide, by decide +kernel⟩
theorem w869 : (Cond.methodLink "ButlerRemembersLaw" (129 : Nat) ({ cls := "ButlerRemembers", name := "undo", desc := "()I" } : Jvm.MethodName)) ∈ tblG := tblG_at 869 (by decide +kernel) (by decide +kernel)
theorem w870 : (Cond.instanceMethod ({ cls := "ButlerRemembers", name := "undo", desc := "()I" } : Jvm.MethodName)) ∈ tblG := tblG_at 870 (by decide +kernel) (by decide +kernel)
theorem w871 : (Cond.selects "ButlerRemembers" ({ cls := "ButlerRemembers", name := "undo", desc := "()I" } : Jvm.MethodName) ({ cls := "ButlerRemembers", name := "undo", desc := "()I" } : Jvm.MethodName)) ∈ tblG := tblG_at 871 (by decide +kernel) (by decide +kernel)
theorem w872 : (Cond.code ({ cls := "ButlerRemembers", name := "undo", desc := "()I" } : Jvm.MethodName) prog_1_method_29_code (1 : Nat) (Option.some Jvm.ClassFile.FieldType.int)) ∈ tblG := tblG_at 872 (by decide +kernel) (by decide +kernel)
theorem mL_129 : zKV RL 129 11 yX11_undo cX11_undo 1 (some .int) 0 := ⟨⟨_, _, rfl⟩, w869, w870, w871, w69, w872, by decide, by decide, by decide, by decide +kernel⟩
theorem w1110 : (Cond.methodLink "ButlerRemembersLaw" (132 : Nat) ({ cls := "ButlerRemembersModel", name := "undo", desc := "()I" } : Jvm.MethodName)) ∈ tblG := tblG_at 1110 (by decide +kernel) (by decide +kernel)
theorem w1111 : (Cond.instanceMethod ({ cls := "ButlerRemembersModel", name := "undo", desc := "()I" } : Jvm.MethodName)) ∈ tblG := tblG_at 1111 (by decide +kernel) (by decide +kernel)
theorem w1112 : (Cond.selects "ButlerRemembersModel" ({ cls := "ButlerRemembersModel", name := "undo", desc := "()I" } : Jvm.MethodName) ({ cls := "ButlerRemembersModel", name := "undo", desc := "()I" } : Jvm.MethodName)) ∈ tblG := tblG_at 1112 (by decide +kernel) (by decide +kernel)
theorem w1113 : (Cond.code ({ cls := "ButlerRemembersModel", name := "undo", desc := "()I" } : Jvm.MethodName) prog_14_method_5_code (1 : Nat) (Option.some Jvm.ClassFile.FieldType.int)) ∈ tblG := tblG_at 1113 (by decide +kernel) (by decide +kernel)
theorem mL_132 : zKV RL 132 12 yX12_undo cX12_undo 1 (some .int) 0 := ⟨⟨_, _, rfl⟩, w1110, w1111, w1112, w81, w1113, by decide, by decide, by decide, by decide +kernel⟩
theorem w873 : (Cond.methodLink "ButlerRemembersLaw" (133 : Nat) ({ cls := "ButlerRemembers", name := "act", desc := "(III)I" } : Jvm.MethodName)) ∈ tblG := tblG_at 873 (by decide +kernel) (by decide +kernel)
theorem w874 : (Cond.instanceMethod ({ cls := "ButlerRemembers", name := "act", desc := "(III)I" } : Jvm.MethodName)) ∈ tblG := tblG_at 874 (by decide +kernel) (by decide +kernel)
theorem w875 : (Cond.selects "ButlerRemembers" ({ cls := "ButlerRemembers", name := "act", desc := "(III)I" } : Jvm.MethodName) ({ cls := "ButlerRemembers", name := "act", desc := "(III)I" } : Jvm.MethodName)) ∈ tblG := tblG_at 875 (by decide +kernel) (by decide +kernel)
theorem w876 : (Cond.code ({ cls := "ButlerRemembers", name := "act", desc := "(III)I" } : Jvm.MethodName) prog_1_method_30_code (5 : Nat) (Option.some Jvm.ClassFile.FieldType.int)) ∈ tblG := tblG_at 876 (by decide +kernel) (by decide +kernel)
theorem mL_133 : zKV RL 133 11 yX11_act cX11_act 5 (some .int) 3 := ⟨⟨_, _, rfl⟩, w873, w874, w875, w69, w876, by decide, by decide, by decide, by decide +kernel⟩
theorem w1380 : (Cond.methodLink "ButlerRemembersLaw" (136 : Nat) ({ cls := "ButlerRemembersModel", name := "act", desc := "(III)I" } : Jvm.MethodName)) ∈ tblG := tblG_at 1380 (by decide +kernel) (by decide +kernel)
theorem w1381 : (Cond.instanceMethod ({ cls := "ButlerRemembersModel", name := "act", desc := "(III)I" } : Jvm.MethodName)) ∈ tblG := tblG_at 1381 (by decide +kernel) (by decide +kernel)
theorem w1382 : (Cond.selects "ButlerRemembersModel" ({ cls := "ButlerRemembersModel", name := "act", desc := "(III)I" } : Jvm.MethodName) ({ cls := "ButlerRemembersModel", name := "act", desc := "(III)I" } : Jvm.MethodName)) ∈ tblG := tblG_at 1382 (by decide +kernel) (by decide +kernel)
theorem w1383 : (Cond.code ({ cls := "ButlerRemembersModel", name := "act", desc := "(III)I" } : Jvm.MethodName) prog_14_method_75_code (4 : Nat) (Option.some Jvm.ClassFile.FieldType.int)) ∈ tblG := tblG_at 1383 (by decide +kernel) (by decide +kernel)
theorem mL_136 : zKV RL 136 12 yX12_act cX12_act 4 (some .int) 3 := ⟨⟨_, _, rfl⟩, w1380, w1381, w1382, w81, w1383, by decide, by decide, by decide, by decide +kernel⟩
theorem w960 : (Cond.methodLink "ButlerRemembersLaw" (137 : Nat) ({ cls := "ButlerRemembers", name := "trace", desc := "(I)I" } : Jvm.MethodName)) ∈ tblG := tblG_at 960 (by decide +kernel) (by decide +kernel)
theorem w961 : (Cond.instanceMethod ({ cls := "ButlerRemembers", name := "trace", desc := "(I)I" } : Jvm.MethodName)) ∈ tblG := tblG_at 961 (by decide +kernel) (by decide +kernel)
theorem w962 : (Cond.selects "ButlerRemembers" ({ cls := "ButlerRemembers", name := "trace", desc := "(I)I" } : Jvm.MethodName) ({ cls := "ButlerRemembers", name := "trace", desc := "(I)I" } : Jvm.MethodName)) ∈ tblG := tblG_at 962 (by decide +kernel) (by decide +kernel)
theorem w963 : (Cond.code ({ cls := "ButlerRemembers", name := "trace", desc := "(I)I" } : Jvm.MethodName) prog_1_method_31_code (2 : Nat) (Option.some Jvm.ClassFile.FieldType.int)) ∈ tblG := tblG_at 963 (by decide +kernel) (by decide +kernel)
theorem mL_137 : zKV RL 137 11 yX11_trace cX11_trace 2 (some .int) 1 := ⟨⟨_, _, rfl⟩, w960, w961, w962, w69, w963, by decide, by decide, by decide, by decide +kernel⟩
theorem w1396 : (Cond.methodLink "ButlerRemembersLaw" (140 : Nat) ({ cls := "ButlerRemembersModel", name := "trace", desc := "(I)I" } : Jvm.MethodName)) ∈ tblG := tblG_at 1396 (by decide +kernel) (by decide +kernel)
theorem w1397 : (Cond.instanceMethod ({ cls := "ButlerRemembersModel", name := "trace", desc := "(I)I" } : Jvm.MethodName)) ∈ tblG := tblG_at 1397 (by decide +kernel) (by decide +kernel)
theorem w1398 : (Cond.selects "ButlerRemembersModel" ({ cls := "ButlerRemembersModel", name := "trace", desc := "(I)I" } : Jvm.MethodName) ({ cls := "ButlerRemembersModel", name := "trace", desc := "(I)I" } : Jvm.MethodName)) ∈ tblG := tblG_at 1398 (by decide +kernel) (by decide +kernel)
theorem w1399 : (Cond.code ({ cls := "ButlerRemembersModel", name := "trace", desc := "(I)I" } : Jvm.MethodName) prog_14_method_76_code (2 : Nat) (Option.some Jvm.ClassFile.FieldType.int)) ∈ tblG := tblG_at 1399 (by decide +kernel) (by decide +kernel)
theorem mL_140 : zKV RL 140 12 yX12_trace cX12_trace 2 (some .int) 1 := ⟨⟨_, _, rfl⟩, w1396, w1397, w1398, w81, w1399, by decide, by decide, by decide, by decide +kernel⟩
theorem w969 : (Cond.methodLink "ButlerRemembersLaw" (141 : Nat) ({ cls := "ButlerRemembers", name := "taken", desc := "(II)I" } : Jvm.MethodName)) ∈ tblG := tblG_at 969 (by decide +kernel) (by decide +kernel)
theorem w970 : (Cond.instanceMethod ({ cls := "ButlerRemembers", name := "taken", desc := "(II)I" } : Jvm.MethodName)) ∈ tblG := tblG_at 970 (by decide +kernel) (by decide +kernel)
theorem w971 : (Cond.selects "ButlerRemembers" ({ cls := "ButlerRemembers", name := "taken", desc := "(II)I" } : Jvm.MethodName) ({ cls := "ButlerRemembers", name := "taken", desc := "(II)I" } : Jvm.MethodName)) ∈ tblG := tblG_at 971 (by decide +kernel) (by decide +kernel)
theorem w972 : (Cond.code ({ cls := "ButlerRemembers", name := "taken", desc := "(II)I" } : Jvm.MethodName) prog_1_method_32_code (3 : Nat) (Option.some Jvm.ClassFile.FieldType.int)) ∈ tblG := tblG_at 972 (by decide +kernel) (by decide +kernel)
theorem mL_141 : zKV RL 141 11 yX11_taken cX11_taken 3 (some .int) 2 := ⟨⟨_, _, rfl⟩, w969, w970, w971, w69, w972, by decide, by decide, by decide, by decide +kernel⟩
theorem w1401 : (Cond.methodLink "ButlerRemembersLaw" (144 : Nat) ({ cls := "ButlerRemembersModel", name := "taken", desc := "(II)I" } : Jvm.MethodName)) ∈ tblG := tblG_at 1401 (by decide +kernel) (by decide +kernel)
theorem w1402 : (Cond.instanceMethod ({ cls := "ButlerRemembersModel", name := "taken", desc := "(II)I" } : Jvm.MethodName)) ∈ tblG := tblG_at 1402 (by decide +kernel) (by decide +kernel)
theorem w1403 : (Cond.selects "ButlerRemembersModel" ({ cls := "ButlerRemembersModel", name := "taken", desc := "(II)I" } : Jvm.MethodName) ({ cls := "ButlerRemembersModel", name := "taken", desc := "(II)I" } : Jvm.MethodName)) ∈ tblG := tblG_at 1403 (by decide +kernel) (by decide +kernel)
theorem w1404 : (Cond.code ({ cls := "ButlerRemembersModel", name := "taken", desc := "(II)I" } : Jvm.MethodName) prog_14_method_77_code (4 : Nat) (Option.some Jvm.ClassFile.FieldType.int)) ∈ tblG := tblG_at 1404 (by decide +kernel) (by decide +kernel)
theorem mL_144 : zKV RL 144 12 yX12_taken cX12_taken 4 (some .int) 2 := ⟨⟨_, _, rfl⟩, w1401, w1402, w1403, w81, w1404, by decide, by decide, by decide, by decide +kernel⟩
theorem w976 : (Cond.methodLink "ButlerRemembersLaw" (145 : Nat) ({ cls := "ButlerRemembers", name := "count", desc := "(I)I" } : Jvm.MethodName)) ∈ tblG := tblG_at 976 (by decide +kernel) (by decide +kernel)
theorem w977 : (Cond.instanceMethod ({ cls := "ButlerRemembers", name := "count", desc := "(I)I" } : Jvm.MethodName)) ∈ tblG := tblG_at 977 (by decide +kernel) (by decide +kernel)
theorem w978 : (Cond.selects "ButlerRemembers" ({ cls := "ButlerRemembers", name := "count", desc := "(I)I" } : Jvm.MethodName) ({ cls := "ButlerRemembers", name := "count", desc := "(I)I" } : Jvm.MethodName)) ∈ tblG := tblG_at 978 (by decide +kernel) (by decide +kernel)
theorem w979 : (Cond.code ({ cls := "ButlerRemembers", name := "count", desc := "(I)I" } : Jvm.MethodName) prog_1_method_33_code (2 : Nat) (Option.some Jvm.ClassFile.FieldType.int)) ∈ tblG := tblG_at 979 (by decide +kernel) (by decide +kernel)
theorem mL_145 : zKV RL 145 11 yX11_count cX11_count 2 (some .int) 1 := ⟨⟨_, _, rfl⟩, w976, w977, w978, w69, w979, by decide, by decide, by decide, by decide +kernel⟩
theorem w1405 : (Cond.methodLink "ButlerRemembersLaw" (148 : Nat) ({ cls := "ButlerRemembersModel", name := "count", desc := "(I)I" } : Jvm.MethodName)) ∈ tblG := tblG_at 1405 (by decide +kernel) (by decide +kernel)
theorem w1406 : (Cond.instanceMethod ({ cls := "ButlerRemembersModel", name := "count", desc := "(I)I" } : Jvm.MethodName)) ∈ tblG := tblG_at 1406 (by decide +kernel) (by decide +kernel)
theorem w1407 : (Cond.selects "ButlerRemembersModel" ({ cls := "ButlerRemembersModel", name := "count", desc := "(I)I" } : Jvm.MethodName) ({ cls := "ButlerRemembersModel", name := "count", desc := "(I)I" } : Jvm.MethodName)) ∈ tblG := tblG_at 1407 (by decide +kernel) (by decide +kernel)
theorem w1408 : (Cond.code ({ cls := "ButlerRemembersModel", name := "count", desc := "(I)I" } : Jvm.MethodName) prog_14_method_78_code (2 : Nat) (Option.some Jvm.ClassFile.FieldType.int)) ∈ tblG := tblG_at 1408 (by decide +kernel) (by decide +kernel)
theorem mL_148 : zKV RL 148 12 yX12_count cX12_count 2 (some .int) 1 := ⟨⟨_, _, rfl⟩, w1405, w1406, w1407, w81, w1408, by decide, by decide, by decide, by decide +kernel⟩
theorem w980 : (Cond.methodLink "ButlerRemembersLaw" (149 : Nat) ({ cls := "ButlerRemembers", name := "tape", desc := "(III)I" } : Jvm.MethodName)) ∈ tblG := tblG_at 980 (by decide +kernel) (by decide +kernel)
theorem w981 : (Cond.instanceMethod ({ cls := "ButlerRemembers", name := "tape", desc := "(III)I" } : Jvm.MethodName)) ∈ tblG := tblG_at 981 (by decide +kernel) (by decide +kernel)
theorem w982 : (Cond.selects "ButlerRemembers" ({ cls := "ButlerRemembers", name := "tape", desc := "(III)I" } : Jvm.MethodName) ({ cls := "ButlerRemembers", name := "tape", desc := "(III)I" } : Jvm.MethodName)) ∈ tblG := tblG_at 982 (by decide +kernel) (by decide +kernel)
theorem w983 : (Cond.code ({ cls := "ButlerRemembers", name := "tape", desc := "(III)I" } : Jvm.MethodName) prog_1_method_34_code (4 : Nat) (Option.some Jvm.ClassFile.FieldType.int)) ∈ tblG := tblG_at 983 (by decide +kernel) (by decide +kernel)
theorem mL_149 : zKV RL 149 11 yX11_tape cX11_tape 4 (some .int) 3 := ⟨⟨_, _, rfl⟩, w980, w981, w982, w69, w983, by decide, by decide, by decide, by decide +kernel⟩
theorem w1409 : (Cond.methodLink "ButlerRemembersLaw" (152 : Nat) ({ cls := "ButlerRemembersModel", name := "tape", desc := "(III)I" } : Jvm.MethodName)) ∈ tblG := tblG_at 1409 (by decide +kernel) (by decide +kernel)
theorem w1410 : (Cond.instanceMethod ({ cls := "ButlerRemembersModel", name := "tape", desc := "(III)I" } : Jvm.MethodName)) ∈ tblG := tblG_at 1410 (by decide +kernel) (by decide +kernel)
theorem w1411 : (Cond.selects "ButlerRemembersModel" ({ cls := "ButlerRemembersModel", name := "tape", desc := "(III)I" } : Jvm.MethodName) ({ cls := "ButlerRemembersModel", name := "tape", desc := "(III)I" } : Jvm.MethodName)) ∈ tblG := tblG_at 1411 (by decide +kernel) (by decide +kernel)
theorem w1412 : (Cond.code ({ cls := "ButlerRemembersModel", name := "tape", desc := "(III)I" } : Jvm.MethodName) prog_14_method_80_code (5 : Nat) (Option.some Jvm.ClassFile.FieldType.int)) ∈ tblG := tblG_at 1412 (by decide +kernel) (by decide +kernel)
theorem mL_152 : zKV RL 152 12 yX12_tape cX12_tape 5 (some .int) 3 := ⟨⟨_, _, rfl⟩, w1409, w1410, w1411, w81, w1412, by decide, by decide, by decide, by decide +kernel⟩
theorem w991 : (Cond.methodLink "ButlerRemembersLaw" (155 : Nat) ({ cls := "ButlerRemembers", name := "item", desc := "(IIJ)I" } : Jvm.MethodName)) ∈ tblG := tblG_at 991 (by decide +kernel) (by decide +kernel)
theorem w992 : (Cond.instanceMethod ({ cls := "ButlerRemembers", name := "item", desc := "(IIJ)I" } : Jvm.MethodName)) ∈ tblG := tblG_at 992 (by decide +kernel) (by decide +kernel)
theorem w993 : (Cond.selects "ButlerRemembers" ({ cls := "ButlerRemembers", name := "item", desc := "(IIJ)I" } : Jvm.MethodName) ({ cls := "ButlerRemembers", name := "item", desc := "(IIJ)I" } : Jvm.MethodName)) ∈ tblG := tblG_at 993 (by decide +kernel) (by decide +kernel)
theorem w994 : (Cond.code ({ cls := "ButlerRemembers", name := "item", desc := "(IIJ)I" } : Jvm.MethodName) prog_1_method_35_code (6 : Nat) (Option.some Jvm.ClassFile.FieldType.int)) ∈ tblG := tblG_at 994 (by decide +kernel) (by decide +kernel)
theorem mL_155 : zKV RL 155 11 yX11_item cX11_item 6 (some .int) 3 := ⟨⟨_, _, rfl⟩, w991, w992, w993, w69, w994, by decide, by decide, by decide, by decide +kernel⟩
theorem w1416 : (Cond.methodLink "ButlerRemembersLaw" (159 : Nat) ({ cls := "ButlerRemembersModel", name := "item", desc := "(IIJ)I" } : Jvm.MethodName)) ∈ tblG := tblG_at 1416 (by decide +kernel) (by decide +kernel)
theorem w1417 : (Cond.instanceMethod ({ cls := "ButlerRemembersModel", name := "item", desc := "(IIJ)I" } : Jvm.MethodName)) ∈ tblG := tblG_at 1417 (by decide +kernel) (by decide +kernel)
theorem w1418 : (Cond.selects "ButlerRemembersModel" ({ cls := "ButlerRemembersModel", name := "item", desc := "(IIJ)I" } : Jvm.MethodName) ({ cls := "ButlerRemembersModel", name := "item", desc := "(IIJ)I" } : Jvm.MethodName)) ∈ tblG := tblG_at 1418 (by decide +kernel) (by decide +kernel)
theorem w1419 : (Cond.code ({ cls := "ButlerRemembersModel", name := "item", desc := "(IIJ)I" } : Jvm.MethodName) prog_14_method_81_code (6 : Nat) (Option.some Jvm.ClassFile.FieldType.int)) ∈ tblG := tblG_at 1419 (by decide +kernel) (by decide +kernel)
theorem mL_159 : zKV RL 159 12 yX12_item cX12_item 6 (some .int) 3 := ⟨⟨_, _, rfl⟩, w1416, w1417, w1418, w81, w1419, by decide, by decide, by decide, by decide +kernel⟩
theorem w999 : (Cond.methodLink "ButlerRemembersLaw" (160 : Nat) ({ cls := "ButlerRemembers", name := "read", desc := "(II)J" } : Jvm.MethodName)) ∈ tblG := tblG_at 999 (by decide +kernel) (by decide +kernel)
theorem w1000 : (Cond.instanceMethod ({ cls := "ButlerRemembers", name := "read", desc := "(II)J" } : Jvm.MethodName)) ∈ tblG := tblG_at 1000 (by decide +kernel) (by decide +kernel)
theorem w1001 : (Cond.selects "ButlerRemembers" ({ cls := "ButlerRemembers", name := "read", desc := "(II)J" } : Jvm.MethodName) ({ cls := "ButlerRemembers", name := "read", desc := "(II)J" } : Jvm.MethodName)) ∈ tblG := tblG_at 1001 (by decide +kernel) (by decide +kernel)
theorem w1002 : (Cond.code ({ cls := "ButlerRemembers", name := "read", desc := "(II)J" } : Jvm.MethodName) prog_1_method_36_code (3 : Nat) (Option.some Jvm.ClassFile.FieldType.long)) ∈ tblG := tblG_at 1002 (by decide +kernel) (by decide +kernel)
theorem mL_160 : zKV RL 160 11 yX11_read cX11_read 3 (some .long) 2 := ⟨⟨_, _, rfl⟩, w999, w1000, w1001, w69, w1002, by decide, by decide, by decide, by decide +kernel⟩
theorem w1420 : (Cond.methodLink "ButlerRemembersLaw" (163 : Nat) ({ cls := "ButlerRemembersModel", name := "read", desc := "(II)J" } : Jvm.MethodName)) ∈ tblG := tblG_at 1420 (by decide +kernel) (by decide +kernel)
theorem w1421 : (Cond.instanceMethod ({ cls := "ButlerRemembersModel", name := "read", desc := "(II)J" } : Jvm.MethodName)) ∈ tblG := tblG_at 1421 (by decide +kernel) (by decide +kernel)
theorem w1422 : (Cond.selects "ButlerRemembersModel" ({ cls := "ButlerRemembersModel", name := "read", desc := "(II)J" } : Jvm.MethodName) ({ cls := "ButlerRemembersModel", name := "read", desc := "(II)J" } : Jvm.MethodName)) ∈ tblG := tblG_at 1422 (by decide +kernel) (by decide +kernel)
theorem w1423 : (Cond.code ({ cls := "ButlerRemembersModel", name := "read", desc := "(II)J" } : Jvm.MethodName) prog_14_method_82_code (3 : Nat) (Option.some Jvm.ClassFile.FieldType.long)) ∈ tblG := tblG_at 1423 (by decide +kernel) (by decide +kernel)
theorem mL_163 : zKV RL 163 12 yX12_read cX12_read 3 (some .long) 2 := ⟨⟨_, _, rfl⟩, w1420, w1421, w1422, w81, w1423, by decide, by decide, by decide, by decide +kernel⟩
theorem w1003 : (Cond.methodLink "ButlerRemembersLaw" (164 : Nat) ({ cls := "ButlerRemembers", name := "shift", desc := "(IIIII)I" } : Jvm.MethodName)) ∈ tblG := tblG_at 1003 (by decide +kernel) (by decide +kernel)
theorem w1004 : (Cond.instanceMethod ({ cls := "ButlerRemembers", name := "shift", desc := "(IIIII)I" } : Jvm.MethodName)) ∈ tblG := tblG_at 1004 (by decide +kernel) (by decide +kernel)
theorem w1005 : (Cond.selects "ButlerRemembers" ({ cls := "ButlerRemembers", name := "shift", desc := "(IIIII)I" } : Jvm.MethodName) ({ cls := "ButlerRemembers", name := "shift", desc := "(IIIII)I" } : Jvm.MethodName)) ∈ tblG := tblG_at 1005 (by decide +kernel) (by decide +kernel)
theorem w1006 : (Cond.code ({ cls := "ButlerRemembers", name := "shift", desc := "(IIIII)I" } : Jvm.MethodName) prog_1_method_37_code (8 : Nat) (Option.some Jvm.ClassFile.FieldType.int)) ∈ tblG := tblG_at 1006 (by decide +kernel) (by decide +kernel)
theorem mL_164 : zKV RL 164 11 yX11_shift cX11_shift 8 (some .int) 5 := ⟨⟨_, _, rfl⟩, w1003, w1004, w1005, w69, w1006, by decide, by decide, by decide, by decide +kernel⟩
theorem w1424 : (Cond.methodLink "ButlerRemembersLaw" (168 : Nat) ({ cls := "ButlerRemembersModel", name := "shift", desc := "(IIIII)I" } : Jvm.MethodName)) ∈ tblG := tblG_at 1424 (by decide +kernel) (by decide +kernel)
theorem w1425 : (Cond.instanceMethod ({ cls := "ButlerRemembersModel", name := "shift", desc := "(IIIII)I" } : Jvm.MethodName)) ∈ tblG := tblG_at 1425 (by decide +kernel) (by decide +kernel)
theorem w1426 : (Cond.selects "ButlerRemembersModel" ({ cls := "ButlerRemembersModel", name := "shift", desc := "(IIIII)I" } : Jvm.MethodName) ({ cls := "ButlerRemembersModel", name := "shift", desc := "(IIIII)I" } : Jvm.MethodName)) ∈ tblG := tblG_at 1426 (by decide +kernel) (by decide +kernel)
theorem w1427 : (Cond.code ({ cls := "ButlerRemembersModel", name := "shift", desc := "(IIIII)I" } : Jvm.MethodName) prog_14_method_83_code (7 : Nat) (Option.some Jvm.ClassFile.FieldType.int)) ∈ tblG := tblG_at 1427 (by decide +kernel) (by decide +kernel)
theorem mL_168 : zKV RL 168 12 yX12_shift cX12_shift 7 (some .int) 5 := ⟨⟨_, _, rfl⟩, w1424, w1425, w1426, w81, w1427, by decide, by decide, by decide, by decide +kernel⟩
theorem w430 : (Cond.methodLink "ButlerRemembers$Bishop" (9 : Nat) ({ cls := "ButlerRemembers$Heir", name := "firmness", desc := "(IIIII)I" } : Jvm.MethodName)) ∈ tblG := tblG_at 430 (by decide +kernel) (by decide +kernel)
theorem w1433 : (Cond.sameMethod "ButlerRemembers$Heir" "ButlerRemembers$Heir" "firmness" "(IIIII)I") ∈ tblG := tblG_at 1433 (by decide +kernel) (by decide +kernel)
theorem w220 : (Cond.superclass "ButlerRemembers$Bishop" "ButlerRemembers$Heir") ∈ tblG := tblG_at 220 (by decide +kernel) (by decide +kernel)
theorem w431 : (Cond.instanceMethod ({ cls := "ButlerRemembers$Heir", name := "firmness", desc := "(IIIII)I" } : Jvm.MethodName)) ∈ tblG := tblG_at 431 (by decide +kernel) (by decide +kernel)
theorem w72 : (Cond.initialized "ButlerRemembers$Heir") ∈ tblG := tblG_at 72 (by decide +kernel) (by decide +kernel)
theorem w432 : (Cond.code ({ cls := "ButlerRemembers$Heir", name := "firmness", desc := "(IIIII)I" } : Jvm.MethodName) prog_6_method_2_code (6 : Nat) (Option.some Jvm.ClassFile.FieldType.int)) ∈ tblG := tblG_at 432 (by decide +kernel) (by decide +kernel)
theorem mX0_9 : zKP RX0 9 ⟨"ButlerRemembers$Heir", "firmness", "(IIIII)I"⟩ yX4_firmness cX4_firmness 6 (some .int) 5 := ⟨w430, w1433, w220, Or.inl rfl, rfl, w431, w72, w432, by decide, by decide, by decide +kernel⟩
theorem w888 : (Cond.methodLink "ButlerRemembers$Bishop" (13 : Nat) ({ cls := "ButlerRemembers$Turn", name := "begin", desc := "(I)V" } : Jvm.MethodName)) ∈ tblG := tblG_at 888 (by decide +kernel) (by decide +kernel)
theorem w889 : (Cond.instanceMethod ({ cls := "ButlerRemembers$Turn", name := "begin", desc := "(I)V" } : Jvm.MethodName)) ∈ tblG := tblG_at 889 (by decide +kernel) (by decide +kernel)
theorem w890 : (Cond.selects "ButlerRemembers$Turn" ({ cls := "ButlerRemembers$Turn", name := "begin", desc := "(I)V" } : Jvm.MethodName) ({ cls := "ButlerRemembers$Turn", name := "begin", desc := "(I)V" } : Jvm.MethodName)) ∈ tblG := tblG_at 890 (by decide +kernel) (by decide +kernel)
theorem w79 : (Cond.initialized "ButlerRemembers$Turn") ∈ tblG := tblG_at 79 (by decide +kernel) (by decide +kernel)
theorem w891 : (Cond.code ({ cls := "ButlerRemembers$Turn", name := "begin", desc := "(I)V" } : Jvm.MethodName) prog_12_method_3_code (2 : Nat) (Option.none : Option Jvm.ClassFile.FieldType)) ∈ tblG := tblG_at 891 (by decide +kernel) (by decide +kernel)
theorem mX0_13 : zKV RX0 13 10 yX10_begin cX10_begin 2 none 1 := ⟨⟨_, _, rfl⟩, w888, w889, w890, w79, w891, by decide, by decide, by decide, by decide +kernel⟩
theorem w199 : (Cond.superclass "ButlerRemembers$Heir" "ButlerRemembers$Master") ∈ tblG := tblG_at 199 (by decide +kernel) (by decide +kernel)
theorem w892 : (Cond.methodLink "ButlerRemembers$Bishop" (19 : Nat) ({ cls := "ButlerRemembers$Heir", name := "dines", desc := "(LButlerRemembers$Turn;I)I" } : Jvm.MethodName)) ∈ tblG := tblG_at 892 (by decide +kernel) (by decide +kernel)
theorem w893 : (Cond.sameMethod "ButlerRemembers$Heir" "ButlerRemembers$Master" "dines" "(LButlerRemembers$Turn;I)I") ∈ tblG := tblG_at 893 (by decide +kernel) (by decide +kernel)
theorem w882 : (Cond.instanceMethod ({ cls := "ButlerRemembers$Master", name := "dines", desc := "(LButlerRemembers$Turn;I)I" } : Jvm.MethodName)) ∈ tblG := tblG_at 882 (by decide +kernel) (by decide +kernel)
theorem w71 : (Cond.initialized "ButlerRemembers$Master") ∈ tblG := tblG_at 71 (by decide +kernel) (by decide +kernel)
theorem w909 : (Cond.code ({ cls := "ButlerRemembers$Master", name := "dines", desc := "(LButlerRemembers$Turn;I)I" } : Jvm.MethodName) prog_9_method_3_code (3 : Nat) (Option.some Jvm.ClassFile.FieldType.int)) ∈ tblG := tblG_at 909 (by decide +kernel) (by decide +kernel)
theorem mX0_19 : zKP RX0 19 ⟨"ButlerRemembers$Heir", "dines", "(LButlerRemembers$Turn;I)I"⟩ yX7_dines cX7_dines 3 (some .int) 2 := ⟨w892, w893, w220, Or.inr (w199), rfl, w882, w71, w909, by decide, by decide, by decide +kernel⟩
theorem w918 : (Cond.methodLink "ButlerRemembers$Bishop" (23 : Nat) ({ cls := "ButlerRemembers$Heir", name := "nods", desc := "(LButlerRemembers$Turn;I)I" } : Jvm.MethodName)) ∈ tblG := tblG_at 918 (by decide +kernel) (by decide +kernel)
theorem w1436 : (Cond.sameMethod "ButlerRemembers$Heir" "ButlerRemembers$Heir" "nods" "(LButlerRemembers$Turn;I)I") ∈ tblG := tblG_at 1436 (by decide +kernel) (by decide +kernel)
theorem w919 : (Cond.instanceMethod ({ cls := "ButlerRemembers$Heir", name := "nods", desc := "(LButlerRemembers$Turn;I)I" } : Jvm.MethodName)) ∈ tblG := tblG_at 919 (by decide +kernel) (by decide +kernel)
theorem w920 : (Cond.code ({ cls := "ButlerRemembers$Heir", name := "nods", desc := "(LButlerRemembers$Turn;I)I" } : Jvm.MethodName) prog_6_method_3_code (3 : Nat) (Option.some Jvm.ClassFile.FieldType.int)) ∈ tblG := tblG_at 920 (by decide +kernel) (by decide +kernel)
theorem mX0_23 : zKP RX0 23 ⟨"ButlerRemembers$Heir", "nods", "(LButlerRemembers$Turn;I)I"⟩ yX4_nods cX4_nods 3 (some .int) 2 := ⟨w918, w1436, w220, Or.inl rfl, rfl, w919, w72, w920, by decide, by decide, by decide +kernel⟩
theorem w437 : (Cond.methodLink "ButlerRemembers$Cousin" (7 : Nat) ({ cls := "ButlerRemembers$Master", name := "firmness", desc := "(IIIII)I" } : Jvm.MethodName)) ∈ tblG := tblG_at 437 (by decide +kernel) (by decide +kernel)
theorem w426 : (Cond.sameMethod "ButlerRemembers$Master" "ButlerRemembers$Master" "firmness" "(IIIII)I") ∈ tblG := tblG_at 426 (by decide +kernel) (by decide +kernel)
theorem w213 : (Cond.superclass "ButlerRemembers$Cousin" "ButlerRemembers$Master") ∈ tblG := tblG_at 213 (by decide +kernel) (by decide +kernel)
theorem w424 : (Cond.instanceMethod ({ cls := "ButlerRemembers$Master", name := "firmness", desc := "(IIIII)I" } : Jvm.MethodName)) ∈ tblG := tblG_at 424 (by decide +kernel) (by decide +kernel)
theorem w451 : (Cond.code ({ cls := "ButlerRemembers$Master", name := "firmness", desc := "(IIIII)I" } : Jvm.MethodName) prog_9_method_2_code (6 : Nat) (Option.some Jvm.ClassFile.FieldType.int)) ∈ tblG := tblG_at 451 (by decide +kernel) (by decide +kernel)
theorem mX1_7 : zKP RX1 7 ⟨"ButlerRemembers$Master", "firmness", "(IIIII)I"⟩ yX7_firmness cX7_firmness 6 (some .int) 5 := ⟨w437, w426, w213, Or.inl rfl, rfl, w424, w71, w451, by decide, by decide, by decide +kernel⟩
theorem w943 : (Cond.methodLink "ButlerRemembers$Cousin" (11 : Nat) ({ cls := "ButlerRemembers$Turn", name := "begin", desc := "(I)V" } : Jvm.MethodName)) ∈ tblG := tblG_at 943 (by decide +kernel) (by decide +kernel)
theorem mX1_11 : zKV RX1 11 10 yX10_begin cX10_begin 2 none 1 := ⟨⟨_, _, rfl⟩, w943, w889, w890, w79, w891, by decide, by decide, by decide, by decide +kernel⟩
theorem w944 : (Cond.methodLink "ButlerRemembers$Cousin" (17 : Nat) ({ cls := "ButlerRemembers$Master", name := "tells", desc := "(LButlerRemembers$Turn;I)I" } : Jvm.MethodName)) ∈ tblG := tblG_at 944 (by decide +kernel) (by decide +kernel)
theorem w938 : (Cond.sameMethod "ButlerRemembers$Master" "ButlerRemembers$Master" "tells" "(LButlerRemembers$Turn;I)I") ∈ tblG := tblG_at 938 (by decide +kernel) (by decide +kernel)
theorem w936 : (Cond.instanceMethod ({ cls := "ButlerRemembers$Master", name := "tells", desc := "(LButlerRemembers$Turn;I)I" } : Jvm.MethodName)) ∈ tblG := tblG_at 936 (by decide +kernel) (by decide +kernel)
theorem w958 : (Cond.code ({ cls := "ButlerRemembers$Master", name := "tells", desc := "(LButlerRemembers$Turn;I)I" } : Jvm.MethodName) prog_9_method_5_code (3 : Nat) (Option.some Jvm.ClassFile.FieldType.int)) ∈ tblG := tblG_at 958 (by decide +kernel) (by decide +kernel)
theorem mX1_17 : zKP RX1 17 ⟨"ButlerRemembers$Master", "tells", "(LButlerRemembers$Turn;I)I"⟩ yX7_tells cX7_tells 3 (some .int) 2 := ⟨w944, w938, w213, Or.inl rfl, rfl, w936, w71, w958, by decide, by decide, by decide +kernel⟩
theorem w945 : (Cond.methodLink "ButlerRemembers$Cousin" (21 : Nat) ({ cls := "ButlerRemembers$Cousin", name := "nods", desc := "(LButlerRemembers$Turn;I)I" } : Jvm.MethodName)) ∈ tblG := tblG_at 945 (by decide +kernel) (by decide +kernel)
theorem w931 : (Cond.sameMethod "ButlerRemembers$Cousin" "ButlerRemembers$Master" "nods" "(LButlerRemembers$Turn;I)I") ∈ tblG := tblG_at 931 (by decide +kernel) (by decide +kernel)
theorem w912 : (Cond.instanceMethod ({ cls := "ButlerRemembers$Master", name := "nods", desc := "(LButlerRemembers$Turn;I)I" } : Jvm.MethodName)) ∈ tblG := tblG_at 912 (by decide +kernel) (by decide +kernel)
theorem w933 : (Cond.code ({ cls := "ButlerRemembers$Master", name := "nods", desc := "(LButlerRemembers$Turn;I)I" } : Jvm.MethodName) prog_9_method_4_code (3 : Nat) (Option.some Jvm.ClassFile.FieldType.int)) ∈ tblG := tblG_at 933 (by decide +kernel) (by decide +kernel)
theorem w946 : (Cond.selects "ButlerRemembers$Cousin" ({ cls := "ButlerRemembers$Cousin", name := "nods", desc := "(LButlerRemembers$Turn;I)I" } : Jvm.MethodName) ({ cls := "ButlerRemembers$Master", name := "nods", desc := "(LButlerRemembers$Turn;I)I" } : Jvm.MethodName)) ∈ tblG := tblG_at 946 (by decide +kernel) (by decide +kernel)
theorem mX1_21_1 : zKU RX1 21 1 RX1 "ButlerRemembers$Master" ⟨"ButlerRemembers$Cousin", "nods", "(LButlerRemembers$Turn;I)I"⟩ yX7_nods cX7_nods 3 (some .int) 2 := ⟨⟨_, _, rfl⟩, w945, w931, w912, ⟨cX7_nods, 3, (some .int), w933⟩, w946, w912, w71, w933, by decide, by decide, by decide, by decide +kernel⟩
theorem w947 : (Cond.selects "ButlerRemembers$Told" ({ cls := "ButlerRemembers$Cousin", name := "nods", desc := "(LButlerRemembers$Turn;I)I" } : Jvm.MethodName) ({ cls := "ButlerRemembers$Told", name := "nods", desc := "(LButlerRemembers$Turn;I)I" } : Jvm.MethodName)) ∈ tblG := tblG_at 947 (by decide +kernel) (by decide +kernel)
theorem w928 : (Cond.instanceMethod ({ cls := "ButlerRemembers$Told", name := "nods", desc := "(LButlerRemembers$Turn;I)I" } : Jvm.MethodName)) ∈ tblG := tblG_at 928 (by decide +kernel) (by decide +kernel)
theorem w77 : (Cond.initialized "ButlerRemembers$Told") ∈ tblG := tblG_at 77 (by decide +kernel) (by decide +kernel)
theorem w929 : (Cond.code ({ cls := "ButlerRemembers$Told", name := "nods", desc := "(LButlerRemembers$Turn;I)I" } : Jvm.MethodName) prog_11_method_3_code (3 : Nat) (Option.some Jvm.ClassFile.FieldType.int)) ∈ tblG := tblG_at 929 (by decide +kernel) (by decide +kernel)
theorem mX1_21_9 : zKU RX1 21 9 RX9 "ButlerRemembers$Master" ⟨"ButlerRemembers$Cousin", "nods", "(LButlerRemembers$Turn;I)I"⟩ yX9_nods cX9_nods 3 (some .int) 2 := ⟨⟨_, _, rfl⟩, w945, w931, w912, ⟨cX7_nods, 3, (some .int), w933⟩, w947, w928, w77, w929, by decide, by decide, by decide, by decide +kernel⟩
theorem w968 : (Cond.methodLink "ButlerRemembers$Turn" (23 : Nat) ({ cls := "java/lang/Math", name := "min", desc := "(II)I" } : Jvm.MethodName)) ∈ tblG := tblG_at 968 (by decide +kernel) (by decide +kernel)
theorem mX10_23 : zKS RX10 23 yJ9_min_7cf53 cJ9_min_7cf53 2 (some .int) 2 := ⟨w968, w532, w83, w533, by decide, by decide, by decide, by decide +kernel⟩
theorem w363 : (Cond.methodLink "ButlerRemembers" (93 : Nat) ({ cls := "ButlerRemembers$Household", name := "addMaster", desc := "(II)I" } : Jvm.MethodName)) ∈ tblG := tblG_at 363 (by decide +kernel) (by decide +kernel)
theorem w364 : (Cond.instanceMethod ({ cls := "ButlerRemembers$Household", name := "addMaster", desc := "(II)I" } : Jvm.MethodName)) ∈ tblG := tblG_at 364 (by decide +kernel) (by decide +kernel)
theorem w365 : (Cond.selects "ButlerRemembers$Household" ({ cls := "ButlerRemembers$Household", name := "addMaster", desc := "(II)I" } : Jvm.MethodName) ({ cls := "ButlerRemembers$Household", name := "addMaster", desc := "(II)I" } : Jvm.MethodName)) ∈ tblG := tblG_at 365 (by decide +kernel) (by decide +kernel)
theorem w70 : (Cond.initialized "ButlerRemembers$Household") ∈ tblG := tblG_at 70 (by decide +kernel) (by decide +kernel)
theorem w366 : (Cond.code ({ cls := "ButlerRemembers$Household", name := "addMaster", desc := "(II)I" } : Jvm.MethodName) prog_8_method_5_code (4 : Nat) (Option.some Jvm.ClassFile.FieldType.int)) ∈ tblG := tblG_at 366 (by decide +kernel) (by decide +kernel)
theorem mX11_93 : zKV RX11 93 6 yX6_addMaster cX6_addMaster 4 (some .int) 2 := ⟨⟨_, _, rfl⟩, w363, w364, w365, w70, w366, by decide, by decide, by decide, by decide +kernel⟩
theorem w371 : (Cond.methodLink "ButlerRemembers" (97 : Nat) ({ cls := "ButlerRemembers$Household", name := "hasMaster", desc := "(I)Z" } : Jvm.MethodName)) ∈ tblG := tblG_at 371 (by decide +kernel) (by decide +kernel)
theorem w372 : (Cond.instanceMethod ({ cls := "ButlerRemembers$Household", name := "hasMaster", desc := "(I)Z" } : Jvm.MethodName)) ∈ tblG := tblG_at 372 (by decide +kernel) (by decide +kernel)
theorem w373 : (Cond.selects "ButlerRemembers$Household" ({ cls := "ButlerRemembers$Household", name := "hasMaster", desc := "(I)Z" } : Jvm.MethodName) ({ cls := "ButlerRemembers$Household", name := "hasMaster", desc := "(I)Z" } : Jvm.MethodName)) ∈ tblG := tblG_at 373 (by decide +kernel) (by decide +kernel)
theorem w374 : (Cond.code ({ cls := "ButlerRemembers$Household", name := "hasMaster", desc := "(I)Z" } : Jvm.MethodName) prog_8_method_2_code (2 : Nat) (Option.some Jvm.ClassFile.FieldType.boolean)) ∈ tblG := tblG_at 374 (by decide +kernel) (by decide +kernel)
theorem mX11_97 : zKV RX11 97 6 yX6_hasMaster cX6_hasMaster 2 (some .boolean) 1 := ⟨⟨_, _, rfl⟩, w371, w372, w373, w70, w374, by decide, by decide, by decide, by decide +kernel⟩
theorem w375 : (Cond.methodLink "ButlerRemembers" (101 : Nat) ({ cls := "ButlerRemembers", name := "nightsKept", desc := "(II)I" } : Jvm.MethodName)) ∈ tblG := tblG_at 375 (by decide +kernel) (by decide +kernel)
theorem w377 : (Cond.instanceMethod ({ cls := "ButlerRemembers", name := "nightsKept", desc := "(II)I" } : Jvm.MethodName)) ∈ tblG := tblG_at 377 (by decide +kernel) (by decide +kernel)
theorem w0 : Cond.selects "ButlerRemembers" ⟨"ButlerRemembers", "nightsKept", "(II)I"⟩ ⟨"ButlerRemembers", "nightsKept", "(II)I"⟩ ∈ tblG := tblG_at 0 (by decide +kernel) (by decide +kernel)
theorem w378 : (Cond.code ({ cls := "ButlerRemembers", name := "nightsKept", desc := "(II)I" } : Jvm.MethodName) prog_1_method_50_code (4 : Nat) (Option.some Jvm.ClassFile.FieldType.int)) ∈ tblG := tblG_at 378 (by decide +kernel) (by decide +kernel)
theorem mX11_101 : zKV RX11 101 11 yX11_nightsKept cX11_nightsKept 4 (some .int) 2 := ⟨⟨_, _, rfl⟩, w375, w377, w0, w69, w378, by decide, by decide, by decide, by decide +kernel⟩
theorem w452 : (Cond.methodLink "ButlerRemembers" (113 : Nat) ({ cls := "ButlerRemembers", name := "nightsUntilBlank", desc := "(I)I" } : Jvm.MethodName)) ∈ tblG := tblG_at 452 (by decide +kernel) (by decide +kernel)
theorem w454 : (Cond.instanceMethod ({ cls := "ButlerRemembers", name := "nightsUntilBlank", desc := "(I)I" } : Jvm.MethodName)) ∈ tblG := tblG_at 454 (by decide +kernel) (by decide +kernel)
theorem w8 : Cond.selects "ButlerRemembers" ⟨"ButlerRemembers", "nightsUntilBlank", "(I)I"⟩ ⟨"ButlerRemembers", "nightsUntilBlank", "(I)I"⟩ ∈ tblG := tblG_at 8 (by decide +kernel) (by decide +kernel)
theorem w455 : (Cond.code ({ cls := "ButlerRemembers", name := "nightsUntilBlank", desc := "(I)I" } : Jvm.MethodName) prog_1_method_51_code (4 : Nat) (Option.some Jvm.ClassFile.FieldType.int)) ∈ tblG := tblG_at 455 (by decide +kernel) (by decide +kernel)
theorem mX11_113 : zKV RX11 113 11 yX11_nightsUntilBlank cX11_nightsUntilBlank 4 (some .int) 1 := ⟨⟨_, _, rfl⟩, w452, w454, w8, w69, w455, by decide, by decide, by decide, by decide +kernel⟩
theorem w460 : (Cond.methodLink "ButlerRemembers" (117 : Nat) ({ cls := "ButlerRemembers", name := "isFact", desc := "(I)Z" } : Jvm.MethodName)) ∈ tblG := tblG_at 460 (by decide +kernel) (by decide +kernel)
theorem w461 : (Cond.static ({ cls := "ButlerRemembers", name := "isFact", desc := "(I)Z" } : Jvm.MethodName)) ∈ tblG := tblG_at 461 (by decide +kernel) (by decide +kernel)
theorem w462 : (Cond.code ({ cls := "ButlerRemembers", name := "isFact", desc := "(I)Z" } : Jvm.MethodName) prog_1_method_38_code (1 : Nat) (Option.some Jvm.ClassFile.FieldType.boolean)) ∈ tblG := tblG_at 462 (by decide +kernel) (by decide +kernel)
theorem mX11_117 : zKS RX11 117 yX11_isFact cX11_isFact 1 (some .boolean) 1 := ⟨w460, w461, w69, w462, by decide, by decide, by decide, by decide +kernel⟩
theorem w383 : (Cond.methodLink "ButlerRemembers" (123 : Nat) ({ cls := "ButlerRemembers", name := "holding", desc := "()LButlerRemembers$House;" } : Jvm.MethodName)) ∈ tblG := tblG_at 383 (by decide +kernel) (by decide +kernel)
theorem w385 : (Cond.instanceMethod ({ cls := "ButlerRemembers", name := "holding", desc := "()LButlerRemembers$House;" } : Jvm.MethodName)) ∈ tblG := tblG_at 385 (by decide +kernel) (by decide +kernel)
theorem w2 : Cond.selects "ButlerRemembers" ⟨"ButlerRemembers", "holding", "()LButlerRemembers$House;"⟩ ⟨"ButlerRemembers", "holding", "()LButlerRemembers$House;"⟩ ∈ tblG := tblG_at 2 (by decide +kernel) (by decide +kernel)
theorem w386 : (Cond.code ({ cls := "ButlerRemembers", name := "holding", desc := "()LButlerRemembers$House;" } : Jvm.MethodName) prog_1_method_44_code (2 : Nat) (Option.some (Jvm.ClassFile.FieldType.object "ButlerRemembers$House"))) ∈ tblG := tblG_at 386 (by decide +kernel) (by decide +kernel)
theorem mX11_123 : zKV RX11 123 11 yX11_holding cX11_holding 2 (some (.object "ButlerRemembers$House")) 0 := ⟨⟨_, _, rfl⟩, w383, w385, w2, w69, w386, by decide, by decide, by decide, by decide +kernel⟩
theorem w387 : (Cond.methodLink "ButlerRemembers" (127 : Nat) ({ cls := "ButlerRemembers$House", name := "weigh", desc := "(IIII[I)V" } : Jvm.MethodName)) ∈ tblG := tblG_at 387 (by decide +kernel) (by decide +kernel)
theorem w388 : (Cond.instanceMethod ({ cls := "ButlerRemembers$House", name := "weigh", desc := "(IIII[I)V" } : Jvm.MethodName)) ∈ tblG := tblG_at 388 (by decide +kernel) (by decide +kernel)
theorem w389 : (Cond.selects "ButlerRemembers$House" ({ cls := "ButlerRemembers$House", name := "weigh", desc := "(IIII[I)V" } : Jvm.MethodName) ({ cls := "ButlerRemembers$House", name := "weigh", desc := "(IIII[I)V" } : Jvm.MethodName)) ∈ tblG := tblG_at 389 (by decide +kernel) (by decide +kernel)
theorem w78 : (Cond.initialized "ButlerRemembers$House") ∈ tblG := tblG_at 78 (by decide +kernel) (by decide +kernel)
theorem w390 : (Cond.code ({ cls := "ButlerRemembers$House", name := "weigh", desc := "(IIII[I)V" } : Jvm.MethodName) prog_7_method_16_code (10 : Nat) (Option.none : Option Jvm.ClassFile.FieldType)) ∈ tblG := tblG_at 390 (by decide +kernel) (by decide +kernel)
theorem mX11_127 : zKV RX11 127 5 yX5_weigh cX5_weigh 10 none 5 := ⟨⟨_, _, rfl⟩, w387, w388, w389, w78, w390, by decide, by decide, by decide, by decide +kernel⟩
theorem w415 : (Cond.methodLink "ButlerRemembers" (131 : Nat) ({ cls := "ButlerRemembers", name := "weighedGrip", desc := "(IIII)I" } : Jvm.MethodName)) ∈ tblG := tblG_at 415 (by decide +kernel) (by decide +kernel)
theorem w417 : (Cond.instanceMethod ({ cls := "ButlerRemembers", name := "weighedGrip", desc := "(IIII)I" } : Jvm.MethodName)) ∈ tblG := tblG_at 417 (by decide +kernel) (by decide +kernel)
theorem w6 : Cond.selects "ButlerRemembers" ⟨"ButlerRemembers", "weighedGrip", "(IIII)I"⟩ ⟨"ButlerRemembers", "weighedGrip", "(IIII)I"⟩ ∈ tblG := tblG_at 6 (by decide +kernel) (by decide +kernel)
theorem w418 : (Cond.code ({ cls := "ButlerRemembers", name := "weighedGrip", desc := "(IIII)I" } : Jvm.MethodName) prog_1_method_46_code (6 : Nat) (Option.some Jvm.ClassFile.FieldType.int)) ∈ tblG := tblG_at 418 (by decide +kernel) (by decide +kernel)
theorem mX11_131 : zKV RX11 131 11 yX11_weighedGrip cX11_weighedGrip 6 (some .int) 4 := ⟨⟨_, _, rfl⟩, w415, w417, w6, w69, w418, by decide, by decide, by decide, by decide +kernel⟩
theorem w471 : (Cond.methodLink "ButlerRemembers" (135 : Nat) ({ cls := "ButlerRemembers", name := "isSet", desc := "(I)Z" } : Jvm.MethodName)) ∈ tblG := tblG_at 471 (by decide +kernel) (by decide +kernel)
theorem w472 : (Cond.static ({ cls := "ButlerRemembers", name := "isSet", desc := "(I)Z" } : Jvm.MethodName)) ∈ tblG := tblG_at 472 (by decide +kernel) (by decide +kernel)
theorem w473 : (Cond.code ({ cls := "ButlerRemembers", name := "isSet", desc := "(I)Z" } : Jvm.MethodName) prog_1_method_39_code (1 : Nat) (Option.some Jvm.ClassFile.FieldType.boolean)) ∈ tblG := tblG_at 473 (by decide +kernel) (by decide +kernel)
theorem mX11_135 : zKS RX11 135 yX11_isSet cX11_isSet 1 (some .boolean) 1 := ⟨w471, w472, w69, w473, by decide, by decide, by decide, by decide +kernel⟩
theorem w478 : (Cond.methodLink "ButlerRemembers" (138 : Nat) ({ cls := "ButlerRemembers$Household", name := "addDeed", desc := "(III)I" } : Jvm.MethodName)) ∈ tblG := tblG_at 478 (by decide +kernel) (by decide +kernel)
theorem w479 : (Cond.instanceMethod ({ cls := "ButlerRemembers$Household", name := "addDeed", desc := "(III)I" } : Jvm.MethodName)) ∈ tblG := tblG_at 479 (by decide +kernel) (by decide +kernel)
theorem w480 : (Cond.selects "ButlerRemembers$Household" ({ cls := "ButlerRemembers$Household", name := "addDeed", desc := "(III)I" } : Jvm.MethodName) ({ cls := "ButlerRemembers$Household", name := "addDeed", desc := "(III)I" } : Jvm.MethodName)) ∈ tblG := tblG_at 480 (by decide +kernel) (by decide +kernel)
theorem w481 : (Cond.code ({ cls := "ButlerRemembers$Household", name := "addDeed", desc := "(III)I" } : Jvm.MethodName) prog_8_method_6_code (4 : Nat) (Option.some Jvm.ClassFile.FieldType.int)) ∈ tblG := tblG_at 481 (by decide +kernel) (by decide +kernel)
theorem mX11_138 : zKV RX11 138 6 yX6_addDeed cX6_addDeed 4 (some .int) 3 := ⟨⟨_, _, rfl⟩, w478, w479, w480, w70, w481, by decide, by decide, by decide, by decide +kernel⟩
theorem w486 : (Cond.methodLink "ButlerRemembers" (142 : Nat) ({ cls := "ButlerRemembers$Household", name := "addFootman", desc := "(I)I" } : Jvm.MethodName)) ∈ tblG := tblG_at 486 (by decide +kernel) (by decide +kernel)
theorem w487 : (Cond.instanceMethod ({ cls := "ButlerRemembers$Household", name := "addFootman", desc := "(I)I" } : Jvm.MethodName)) ∈ tblG := tblG_at 487 (by decide +kernel) (by decide +kernel)
theorem w488 : (Cond.selects "ButlerRemembers$Household" ({ cls := "ButlerRemembers$Household", name := "addFootman", desc := "(I)I" } : Jvm.MethodName) ({ cls := "ButlerRemembers$Household", name := "addFootman", desc := "(I)I" } : Jvm.MethodName)) ∈ tblG := tblG_at 488 (by decide +kernel) (by decide +kernel)
theorem w489 : (Cond.code ({ cls := "ButlerRemembers$Household", name := "addFootman", desc := "(I)I" } : Jvm.MethodName) prog_8_method_7_code (2 : Nat) (Option.some Jvm.ClassFile.FieldType.int)) ∈ tblG := tblG_at 489 (by decide +kernel) (by decide +kernel)
theorem mX11_142 : zKV RX11 142 6 yX6_addFootman cX6_addFootman 2 (some .int) 1 := ⟨⟨_, _, rfl⟩, w486, w487, w488, w70, w489, by decide, by decide, by decide, by decide +kernel⟩
theorem w494 : (Cond.methodLink "ButlerRemembers" (145 : Nat) ({ cls := "ButlerRemembers$Household", name := "hasFootman", desc := "(I)Z" } : Jvm.MethodName)) ∈ tblG := tblG_at 494 (by decide +kernel) (by decide +kernel)
theorem w495 : (Cond.instanceMethod ({ cls := "ButlerRemembers$Household", name := "hasFootman", desc := "(I)Z" } : Jvm.MethodName)) ∈ tblG := tblG_at 495 (by decide +kernel) (by decide +kernel)
theorem w496 : (Cond.selects "ButlerRemembers$Household" ({ cls := "ButlerRemembers$Household", name := "hasFootman", desc := "(I)Z" } : Jvm.MethodName) ({ cls := "ButlerRemembers$Household", name := "hasFootman", desc := "(I)Z" } : Jvm.MethodName)) ∈ tblG := tblG_at 496 (by decide +kernel) (by decide +kernel)
theorem w497 : (Cond.code ({ cls := "ButlerRemembers$Household", name := "hasFootman", desc := "(I)Z" } : Jvm.MethodName) prog_8_method_3_code (2 : Nat) (Option.some Jvm.ClassFile.FieldType.boolean)) ∈ tblG := tblG_at 497 (by decide +kernel) (by decide +kernel)
theorem mX11_145 : zKV RX11 145 6 yX6_hasFootman cX6_hasFootman 2 (some .boolean) 1 := ⟨⟨_, _, rfl⟩, w494, w495, w496, w70, w497, by decide, by decide, by decide, by decide +kernel⟩
theorem w498 : (Cond.methodLink "ButlerRemembers" (148 : Nat) ({ cls := "ButlerRemembers$Household", name := "isOut", desc := "(I)Z" } : Jvm.MethodName)) ∈ tblG := tblG_at 498 (by decide +kernel) (by decide +kernel)
theorem w499 : (Cond.instanceMethod ({ cls := "ButlerRemembers$Household", name := "isOut", desc := "(I)Z" } : Jvm.MethodName)) ∈ tblG := tblG_at 499 (by decide +kernel) (by decide +kernel)
theorem w500 : (Cond.selects "ButlerRemembers$Household" ({ cls := "ButlerRemembers$Household", name := "isOut", desc := "(I)Z" } : Jvm.MethodName) ({ cls := "ButlerRemembers$Household", name := "isOut", desc := "(I)Z" } : Jvm.MethodName)) ∈ tblG := tblG_at 500 (by decide +kernel) (by decide +kernel)
theorem w501 : (Cond.code ({ cls := "ButlerRemembers$Household", name := "isOut", desc := "(I)Z" } : Jvm.MethodName) prog_8_method_4_code (2 : Nat) (Option.some Jvm.ClassFile.FieldType.boolean)) ∈ tblG := tblG_at 501 (by decide +kernel) (by decide +kernel)
theorem mX11_148 : zKV RX11 148 6 yX6_isOut cX6_isOut 2 (some .boolean) 1 := ⟨⟨_, _, rfl⟩, w498, w499, w500, w70, w501, by decide, by decide, by decide, by decide +kernel⟩
theorem w506 : (Cond.methodLink "ButlerRemembers" (154 : Nat) ({ cls := "ButlerRemembers$Household", name := "lostWith", desc := "(I)I" } : Jvm.MethodName)) ∈ tblG := tblG_at 506 (by decide +kernel) (by decide +kernel)
theorem w507 : (Cond.instanceMethod ({ cls := "ButlerRemembers$Household", name := "lostWith", desc := "(I)I" } : Jvm.MethodName)) ∈ tblG := tblG_at 507 (by decide +kernel) (by decide +kernel)
theorem w508 : (Cond.selects "ButlerRemembers$Household" ({ cls := "ButlerRemembers$Household", name := "lostWith", desc := "(I)I" } : Jvm.MethodName) ({ cls := "ButlerRemembers$Household", name := "lostWith", desc := "(I)I" } : Jvm.MethodName)) ∈ tblG := tblG_at 508 (by decide +kernel) (by decide +kernel)
theorem w509 : (Cond.code ({ cls := "ButlerRemembers$Household", name := "lostWith", desc := "(I)I" } : Jvm.MethodName) prog_8_method_17_code (2 : Nat) (Option.some Jvm.ClassFile.FieldType.int)) ∈ tblG := tblG_at 509 (by decide +kernel) (by decide +kernel)
theorem mX11_154 : zKV RX11 154 6 yX6_lostWith cX6_lostWith 2 (some .int) 1 := ⟨⟨_, _, rfl⟩, w506, w507, w508, w70, w509, by decide, by decide, by decide, by decide +kernel⟩
theorem w527 : (Cond.methodLink "ButlerRemembers" (160 : Nat) ({ cls := "ButlerRemembers$House", name := "learn", desc := "([BI)I" } : Jvm.MethodName)) ∈ tblG := tblG_at 527 (by decide +kernel) (by decide +kernel)
theorem w528 : (Cond.instanceMethod ({ cls := "ButlerRemembers$House", name := "learn", desc := "([BI)I" } : Jvm.MethodName)) ∈ tblG := tblG_at 528 (by decide +kernel) (by decide +kernel)
theorem w529 : (Cond.selects "ButlerRemembers$House" ({ cls := "ButlerRemembers$House", name := "learn", desc := "([BI)I" } : Jvm.MethodName) ({ cls := "ButlerRemembers$House", name := "learn", desc := "([BI)I" } : Jvm.MethodName)) ∈ tblG := tblG_at 529 (by decide +kernel) (by decide +kernel)
theorem w530 : (Cond.code ({ cls := "ButlerRemembers$House", name := "learn", desc := "([BI)I" } : Jvm.MethodName) prog_7_method_2_code (5 : Nat) (Option.some Jvm.ClassFile.FieldType.int)) ∈ tblG := tblG_at 530 (by decide +kernel) (by decide +kernel)
theorem mX11_160 : zKV RX11 160 5 yX5_learn cX5_learn 5 (some .int) 2 := ⟨⟨_, _, rfl⟩, w527, w528, w529, w78, w530, by decide, by decide, by decide, by decide +kernel⟩
theorem w696 : (Cond.methodLink "ButlerRemembers" (170 : Nat) ({ cls := "ButlerRemembers$Household", name := "doneWith", desc := "([I)I" } : Jvm.MethodName)) ∈ tblG := tblG_at 696 (by decide +kernel) (by decide +kernel)
theorem w697 : (Cond.instanceMethod ({ cls := "ButlerRemembers$Household", name := "doneWith", desc := "([I)I" } : Jvm.MethodName)) ∈ tblG := tblG_at 697 (by decide +kernel) (by decide +kernel)
theorem w698 : (Cond.selects "ButlerRemembers$Household" ({ cls := "ButlerRemembers$Household", name := "doneWith", desc := "([I)I" } : Jvm.MethodName) ({ cls := "ButlerRemembers$Household", name := "doneWith", desc := "([I)I" } : Jvm.MethodName)) ∈ tblG := tblG_at 698 (by decide +kernel) (by decide +kernel)
theorem w699 : (Cond.code ({ cls := "ButlerRemembers$Household", name := "doneWith", desc := "([I)I" } : Jvm.MethodName) prog_8_method_11_code (5 : Nat) (Option.some Jvm.ClassFile.FieldType.int)) ∈ tblG := tblG_at 699 (by decide +kernel) (by decide +kernel)
theorem mX11_170 : zKV RX11 170 6 yX6_doneWith cX6_doneWith 5 (some .int) 1 := ⟨⟨_, _, rfl⟩, w696, w697, w698, w70, w699, by decide, by decide, by decide, by decide +kernel⟩
theorem w701 : (Cond.methodLink "ButlerRemembers" (174 : Nat) ({ cls := "ButlerRemembers", name := "tellingsNow", desc := "()I" } : Jvm.MethodName)) ∈ tblG := tblG_at 701 (by decide +kernel) (by decide +kernel)
theorem w703 : (Cond.instanceMethod ({ cls := "ButlerRemembers", name := "tellingsNow", desc := "()I" } : Jvm.MethodName)) ∈ tblG := tblG_at 703 (by decide +kernel) (by decide +kernel)
theorem w19 : Cond.selects "ButlerRemembers" ⟨"ButlerRemembers", "tellingsNow", "()I"⟩ ⟨"ButlerRemembers", "tellingsNow", "()I"⟩ ∈ tblG := tblG_at 19 (by decide +kernel) (by decide +kernel)
theorem w704 : (Cond.code ({ cls := "ButlerRemembers", name := "tellingsNow", desc := "()I" } : Jvm.MethodName) prog_1_method_54_code (1 : Nat) (Option.some Jvm.ClassFile.FieldType.int)) ∈ tblG := tblG_at 704 (by decide +kernel) (by decide +kernel)
theorem mX11_174 : zKV RX11 174 11 yX11_tellingsNow cX11_tellingsNow 1 (some .int) 0 := ⟨⟨_, _, rfl⟩, w701, w703, w19, w69, w704, by decide, by decide, by decide, by decide +kernel⟩
theorem w726 : (Cond.methodLink "ButlerRemembers" (178 : Nat) ({ cls := "ButlerRemembers", name := "tellingsByDay", desc := "(Z)I" } : Jvm.MethodName)) ∈ tblG := tblG_at 726 (by decide +kernel) (by decide +kernel)
theorem w728 : (Cond.instanceMethod ({ cls := "ButlerRemembers", name := "tellingsByDay", desc := "(Z)I" } : Jvm.MethodName)) ∈ tblG := tblG_at 728 (by decide +kernel) (by decide +kernel)
theorem w22 : Cond.selects "ButlerRemembers" ⟨"ButlerRemembers", "tellingsByDay", "(Z)I"⟩ ⟨"ButlerRemembers", "tellingsByDay", "(Z)I"⟩ ∈ tblG := tblG_at 22 (by decide +kernel) (by decide +kernel)
theorem w729 : (Cond.code ({ cls := "ButlerRemembers", name := "tellingsByDay", desc := "(Z)I" } : Jvm.MethodName) prog_1_method_56_code (6 : Nat) (Option.some Jvm.ClassFile.FieldType.int)) ∈ tblG := tblG_at 729 (by decide +kernel) (by decide +kernel)
theorem mX11_178 : zKV RX11 178 11 yX11_tellingsByDay cX11_tellingsByDay 6 (some .int) 1 := ⟨⟨_, _, rfl⟩, w726, w728, w22, w69, w729, by decide, by decide, by decide, by decide +kernel⟩
theorem w735 : (Cond.methodLink "ButlerRemembers" (182 : Nat) ({ cls := "ButlerRemembers$Household", name := "heldWithout", desc := "(I)I" } : Jvm.MethodName)) ∈ tblG := tblG_at 735 (by decide +kernel) (by decide +kernel)
theorem w512 : (Cond.instanceMethod ({ cls := "ButlerRemembers$Household", name := "heldWithout", desc := "(I)I" } : Jvm.MethodName)) ∈ tblG := tblG_at 512 (by decide +kernel) (by decide +kernel)
theorem w513 : (Cond.selects "ButlerRemembers$Household" ({ cls := "ButlerRemembers$Household", name := "heldWithout", desc := "(I)I" } : Jvm.MethodName) ({ cls := "ButlerRemembers$Household", name := "heldWithout", desc := "(I)I" } : Jvm.MethodName)) ∈ tblG := tblG_at 513 (by decide +kernel) (by decide +kernel)
theorem w514 : (Cond.code ({ cls := "ButlerRemembers$Household", name := "heldWithout", desc := "(I)I" } : Jvm.MethodName) prog_8_method_14_code (4 : Nat) (Option.some Jvm.ClassFile.FieldType.int)) ∈ tblG := tblG_at 514 (by decide +kernel) (by decide +kernel)
theorem mX11_182 : zKV RX11 182 6 yX6_heldWithout cX6_heldWithout 4 (some .int) 1 := ⟨⟨_, _, rfl⟩, w735, w512, w513, w70, w514, by decide, by decide, by decide, by decide +kernel⟩
theorem w736 : (Cond.methodLink "ButlerRemembers" (185 : Nat) ({ cls := "ButlerRemembers$Household", name := "smallestCrew", desc := "()I" } : Jvm.MethodName)) ∈ tblG := tblG_at 736 (by decide +kernel) (by decide +kernel)
theorem w737 : (Cond.instanceMethod ({ cls := "ButlerRemembers$Household", name := "smallestCrew", desc := "()I" } : Jvm.MethodName)) ∈ tblG := tblG_at 737 (by decide +kernel) (by decide +kernel)
theorem w738 : (Cond.selects "ButlerRemembers$Household" ({ cls := "ButlerRemembers$Household", name := "smallestCrew", desc := "()I" } : Jvm.MethodName) ({ cls := "ButlerRemembers$Household", name := "smallestCrew", desc := "()I" } : Jvm.MethodName)) ∈ tblG := tblG_at 738 (by decide +kernel) (by decide +kernel)
theorem w739 : (Cond.code ({ cls := "ButlerRemembers$Household", name := "smallestCrew", desc := "()I" } : Jvm.MethodName) prog_8_method_16_code (6 : Nat) (Option.some Jvm.ClassFile.FieldType.int)) ∈ tblG := tblG_at 739 (by decide +kernel) (by decide +kernel)
theorem mX11_185 : zKV RX11 185 6 yX6_smallestCrew cX6_smallestCrew 6 (some .int) 0 := ⟨⟨_, _, rfl⟩, w736, w737, w738, w70, w739, by decide, by decide, by decide, by decide +kernel⟩
theorem w745 : (Cond.methodLink "ButlerRemembers" (188 : Nat) ({ cls := "ButlerRemembers$Household", name := "isSafe", desc := "()Z" } : Jvm.MethodName)) ∈ tblG := tblG_at 745 (by decide +kernel) (by decide +kernel)
theorem w746 : (Cond.instanceMethod ({ cls := "ButlerRemembers$Household", name := "isSafe", desc := "()Z" } : Jvm.MethodName)) ∈ tblG := tblG_at 746 (by decide +kernel) (by decide +kernel)
theorem w747 : (Cond.selects "ButlerRemembers$Household" ({ cls := "ButlerRemembers$Household", name := "isSafe", desc := "()Z" } : Jvm.MethodName) ({ cls := "ButlerRemembers$Household", name := "isSafe", desc := "()Z" } : Jvm.MethodName)) ∈ tblG := tblG_at 747 (by decide +kernel) (by decide +kernel)
theorem w748 : (Cond.code ({ cls := "ButlerRemembers$Household", name := "isSafe", desc := "()Z" } : Jvm.MethodName) prog_8_method_18_code (2 : Nat) (Option.some Jvm.ClassFile.FieldType.boolean)) ∈ tblG := tblG_at 748 (by decide +kernel) (by decide +kernel)
theorem mX11_188 : zKV RX11 188 6 yX6_isSafe cX6_isSafe 2 (some .boolean) 0 := ⟨⟨_, _, rfl⟩, w745, w746, w747, w70, w748, by decide, by decide, by decide, by decide +kernel⟩
theorem w731 : (Cond.methodLink "ButlerRemembers" (192 : Nat) ({ cls := "ButlerRemembers", name := "sleep", desc := "([III)V" } : Jvm.MethodName)) ∈ tblG := tblG_at 731 (by decide +kernel) (by decide +kernel)
theorem w733 : (Cond.instanceMethod ({ cls := "ButlerRemembers", name := "sleep", desc := "([III)V" } : Jvm.MethodName)) ∈ tblG := tblG_at 733 (by decide +kernel) (by decide +kernel)
theorem w23 : Cond.selects "ButlerRemembers" ⟨"ButlerRemembers", "sleep", "([III)V"⟩ ⟨"ButlerRemembers", "sleep", "([III)V"⟩ ∈ tblG := tblG_at 23 (by decide +kernel) (by decide +kernel)
theorem w734 : (Cond.code ({ cls := "ButlerRemembers", name := "sleep", desc := "([III)V" } : Jvm.MethodName) prog_1_method_49_code (6 : Nat) (Option.none : Option Jvm.ClassFile.FieldType)) ∈ tblG := tblG_at 734 (by decide +kernel) (by decide +kernel)
theorem mX11_192 : zKV RX11 192 11 yX11_sleep cX11_sleep 6 none 3 := ⟨⟨_, _, rfl⟩, w731, w733, w23, w69, w734, by decide, by decide, by decide, by decide +kernel⟩
theorem w758 : (Cond.methodLink "ButlerRemembers" (196 : Nat) ({ cls := "ButlerRemembers", name := "keptThrough", desc := "(III)I" } : Jvm.MethodName)) ∈ tblG := tblG_at 758 (by decide +kernel) (by decide +kernel)
theorem w760 : (Cond.instanceMethod ({ cls := "ButlerRemembers", name := "keptThrough", desc := "(III)I" } : Jvm.MethodName)) ∈ tblG := tblG_at 760 (by decide +kernel) (by decide +kernel)
theorem w24 : Cond.selects "ButlerRemembers" ⟨"ButlerRemembers", "keptThrough", "(III)I"⟩ ⟨"ButlerRemembers", "keptThrough", "(III)I"⟩ ∈ tblG := tblG_at 24 (by decide +kernel) (by decide +kernel)
theorem w761 : (Cond.code ({ cls := "ButlerRemembers", name := "keptThrough", desc := "(III)I" } : Jvm.MethodName) prog_1_method_48_code (6 : Nat) (Option.some Jvm.ClassFile.FieldType.int)) ∈ tblG := tblG_at 761 (by decide +kernel) (by decide +kernel)
theorem mX11_196 : zKV RX11 196 11 yX11_keptThrough cX11_keptThrough 6 (some .int) 3 := ⟨⟨_, _, rfl⟩, w758, w760, w24, w69, w761, by decide, by decide, by decide, by decide +kernel⟩
theorem w705 : (Cond.methodLink "ButlerRemembers" (199 : Nat) ({ cls := "ButlerRemembers", name := "dreamOfNow", desc := "()V" } : Jvm.MethodName)) ∈ tblG := tblG_at 705 (by decide +kernel) (by decide +kernel)
theorem w707 : (Cond.instanceMethod ({ cls := "ButlerRemembers", name := "dreamOfNow", desc := "()V" } : Jvm.MethodName)) ∈ tblG := tblG_at 707 (by decide +kernel) (by decide +kernel)
theorem w20 : Cond.selects "ButlerRemembers" ⟨"ButlerRemembers", "dreamOfNow", "()V"⟩ ⟨"ButlerRemembers", "dreamOfNow", "()V"⟩ ∈ tblG := tblG_at 20 (by decide +kernel) (by decide +kernel)
theorem w708 : (Cond.code ({ cls := "ButlerRemembers", name := "dreamOfNow", desc := "()V" } : Jvm.MethodName) prog_1_method_52_code (1 : Nat) (Option.none : Option Jvm.ClassFile.FieldType)) ∈ tblG := tblG_at 708 (by decide +kernel) (by decide +kernel)
theorem mX11_199 : zKV RX11 199 11 yX11_dreamOfNow cX11_dreamOfNow 1 none 0 := ⟨⟨_, _, rfl⟩, w705, w707, w20, w69, w708, by decide, by decide, by decide, by decide +kernel⟩
theorem w762 : (Cond.methodLink "ButlerRemembers" (202 : Nat) ({ cls := "ButlerRemembers$Household", name := "knownIn", desc := "([I)I" } : Jvm.MethodName)) ∈ tblG := tblG_at 762 (by decide +kernel) (by decide +kernel)
theorem w763 : (Cond.instanceMethod ({ cls := "ButlerRemembers$Household", name := "knownIn", desc := "([I)I" } : Jvm.MethodName)) ∈ tblG := tblG_at 763 (by decide +kernel) (by decide +kernel)
theorem w764 : (Cond.selects "ButlerRemembers$Household" ({ cls := "ButlerRemembers$Household", name := "knownIn", desc := "([I)I" } : Jvm.MethodName) ({ cls := "ButlerRemembers$Household", name := "knownIn", desc := "([I)I" } : Jvm.MethodName)) ∈ tblG := tblG_at 764 (by decide +kernel) (by decide +kernel)
theorem w765 : (Cond.code ({ cls := "ButlerRemembers$Household", name := "knownIn", desc := "([I)I" } : Jvm.MethodName) prog_8_method_12_code (4 : Nat) (Option.some Jvm.ClassFile.FieldType.int)) ∈ tblG := tblG_at 765 (by decide +kernel) (by decide +kernel)
theorem mX11_202 : zKV RX11 202 6 yX6_knownIn cX6_knownIn 4 (some .int) 1 := ⟨⟨_, _, rfl⟩, w762, w763, w764, w70, w765, by decide, by decide, by decide, by decide +kernel⟩
theorem w770 : (Cond.methodLink "ButlerRemembers" (208 : Nat) ({ cls := "ButlerRemembers$Household", name := "addSeen", desc := "(IIIZ)I" } : Jvm.MethodName)) ∈ tblG := tblG_at 770 (by decide +kernel) (by decide +kernel)
theorem w771 : (Cond.instanceMethod ({ cls := "ButlerRemembers$Household", name := "addSeen", desc := "(IIIZ)I" } : Jvm.MethodName)) ∈ tblG := tblG_at 771 (by decide +kernel) (by decide +kernel)
theorem w772 : (Cond.selects "ButlerRemembers$Household" ({ cls := "ButlerRemembers$Household", name := "addSeen", desc := "(IIIZ)I" } : Jvm.MethodName) ({ cls := "ButlerRemembers$Household", name := "addSeen", desc := "(IIIZ)I" } : Jvm.MethodName)) ∈ tblG := tblG_at 772 (by decide +kernel) (by decide +kernel)
theorem w773 : (Cond.code ({ cls := "ButlerRemembers$Household", name := "addSeen", desc := "(IIIZ)I" } : Jvm.MethodName) prog_8_method_8_code (6 : Nat) (Option.some Jvm.ClassFile.FieldType.int)) ∈ tblG := tblG_at 773 (by decide +kernel) (by decide +kernel)
theorem mX11_208 : zKV RX11 208 6 yX6_addSeen cX6_addSeen 6 (some .int) 4 := ⟨⟨_, _, rfl⟩, w770, w771, w772, w70, w773, by decide, by decide, by decide, by decide +kernel⟩
theorem w778 : (Cond.methodLink "ButlerRemembers" (216 : Nat) ({ cls := "ButlerRemembers", name := "isSo", desc := "(II)Z" } : Jvm.MethodName)) ∈ tblG := tblG_at 778 (by decide +kernel) (by decide +kernel)
theorem w780 : (Cond.instanceMethod ({ cls := "ButlerRemembers", name := "isSo", desc := "(II)Z" } : Jvm.MethodName)) ∈ tblG := tblG_at 780 (by decide +kernel) (by decide +kernel)
theorem w25 : Cond.selects "ButlerRemembers" ⟨"ButlerRemembers", "isSo", "(II)Z"⟩ ⟨"ButlerRemembers", "isSo", "(II)Z"⟩ ∈ tblG := tblG_at 25 (by decide +kernel) (by decide +kernel)
theorem w781 : (Cond.code ({ cls := "ButlerRemembers", name := "isSo", desc := "(II)Z" } : Jvm.MethodName) prog_1_method_57_code (7 : Nat) (Option.some Jvm.ClassFile.FieldType.boolean)) ∈ tblG := tblG_at 781 (by decide +kernel) (by decide +kernel)
theorem mX11_216 : zKV RX11 216 11 yX11_isSo cX11_isSo 7 (some .boolean) 2 := ⟨⟨_, _, rfl⟩, w778, w780, w25, w69, w781, by decide, by decide, by decide, by decide +kernel⟩
theorem w786 : (Cond.methodLink "ButlerRemembers" (220 : Nat) ({ cls := "ButlerRemembers", name := "isPart", desc := "(I)Z" } : Jvm.MethodName)) ∈ tblG := tblG_at 786 (by decide +kernel) (by decide +kernel)
theorem w787 : (Cond.static ({ cls := "ButlerRemembers", name := "isPart", desc := "(I)Z" } : Jvm.MethodName)) ∈ tblG := tblG_at 787 (by decide +kernel) (by decide +kernel)
theorem w788 : (Cond.code ({ cls := "ButlerRemembers", name := "isPart", desc := "(I)Z" } : Jvm.MethodName) prog_1_method_40_code (1 : Nat) (Option.some Jvm.ClassFile.FieldType.boolean)) ∈ tblG := tblG_at 788 (by decide +kernel) (by decide +kernel)
theorem mX11_220 : zKS RX11 220 yX11_isPart cX11_isPart 1 (some .boolean) 1 := ⟨w786, w787, w69, w788, by decide, by decide, by decide, by decide +kernel⟩
theorem w789 : (Cond.methodLink "ButlerRemembers" (223 : Nat) ({ cls := "ButlerRemembers", name := "fitsSeen", desc := "(II)Z" } : Jvm.MethodName)) ∈ tblG := tblG_at 789 (by decide +kernel) (by decide +kernel)
theorem w791 : (Cond.instanceMethod ({ cls := "ButlerRemembers", name := "fitsSeen", desc := "(II)Z" } : Jvm.MethodName)) ∈ tblG := tblG_at 791 (by decide +kernel) (by decide +kernel)
theorem w26 : Cond.selects "ButlerRemembers" ⟨"ButlerRemembers", "fitsSeen", "(II)Z"⟩ ⟨"ButlerRemembers", "fitsSeen", "(II)Z"⟩ ∈ tblG := tblG_at 26 (by decide +kernel) (by decide +kernel)
theorem w792 : (Cond.code ({ cls := "ButlerRemembers", name := "fitsSeen", desc := "(II)Z" } : Jvm.MethodName) prog_1_method_58_code (4 : Nat) (Option.some Jvm.ClassFile.FieldType.boolean)) ∈ tblG := tblG_at 792 (by decide +kernel) (by decide +kernel)
theorem mX11_223 : zKV RX11 223 11 yX11_fitsSeen cX11_fitsSeen 4 (some .boolean) 2 := ⟨⟨_, _, rfl⟩, w789, w791, w26, w69, w792, by decide, by decide, by decide, by decide +kernel⟩
theorem w720 : (Cond.methodLink "ButlerRemembers" (226 : Nat) ({ cls := "java/lang/Integer", name := "bitCount", desc := "(I)I" } : Jvm.MethodName)) ∈ tblG := tblG_at 720 (by decide +kernel) (by decide +kernel)
theorem w721 : (Cond.static ({ cls := "java/lang/Integer", name := "bitCount", desc := "(I)I" } : Jvm.MethodName)) ∈ tblG := tblG_at 721 (by decide +kernel) (by decide +kernel)
theorem w90 : (Cond.initialized "java/lang/Integer") ∈ tblG := tblG_at 90 (by decide +kernel) (by decide +kernel)
theorem w722 : (Cond.code ({ cls := "java/lang/Integer", name := "bitCount", desc := "(I)I" } : Jvm.MethodName) prog_16_method_49_code (1 : Nat) (Option.some Jvm.ClassFile.FieldType.int)) ∈ tblG := tblG_at 722 (by decide +kernel) (by decide +kernel)
theorem mX11_226 : zKS RX11 226 yJ6_bitCount_0f7a4 cJ6_bitCount_0f7a4 1 (some .int) 1 := ⟨w720, w721, w90, w722, by decide, by decide, by decide, by decide +kernel⟩
theorem w802 : (Cond.methodLink "ButlerRemembers" (236 : Nat) ({ cls := "ButlerRemembers", name := "partOfFraction", desc := "(III)J" } : Jvm.MethodName)) ∈ tblG := tblG_at 802 (by decide +kernel) (by decide +kernel)
theorem w803 : (Cond.static ({ cls := "ButlerRemembers", name := "partOfFraction", desc := "(III)J" } : Jvm.MethodName)) ∈ tblG := tblG_at 803 (by decide +kernel) (by decide +kernel)
theorem w804 : (Cond.code ({ cls := "ButlerRemembers", name := "partOfFraction", desc := "(III)J" } : Jvm.MethodName) prog_1_method_43_code (4 : Nat) (Option.some Jvm.ClassFile.FieldType.long)) ∈ tblG := tblG_at 804 (by decide +kernel) (by decide +kernel)
theorem mX11_236 : zKS RX11 236 yX11_partOfFraction cX11_partOfFraction 4 (some .long) 3 := ⟨w802, w803, w69, w804, by decide, by decide, by decide, by decide +kernel⟩
theorem w813 : (Cond.methodLink "ButlerRemembers" (246 : Nat) ({ cls := "ButlerRemembers$Household", name := "addPlan", desc := "(II)I" } : Jvm.MethodName)) ∈ tblG := tblG_at 813 (by decide +kernel) (by decide +kernel)
theorem w814 : (Cond.instanceMethod ({ cls := "ButlerRemembers$Household", name := "addPlan", desc := "(II)I" } : Jvm.MethodName)) ∈ tblG := tblG_at 814 (by decide +kernel) (by decide +kernel)
theorem w815 : (Cond.selects "ButlerRemembers$Household" ({ cls := "ButlerRemembers$Household", name := "addPlan", desc := "(II)I" } : Jvm.MethodName) ({ cls := "ButlerRemembers$Household", name := "addPlan", desc := "(II)I" } : Jvm.MethodName)) ∈ tblG := tblG_at 815 (by decide +kernel) (by decide +kernel)
theorem w816 : (Cond.code ({ cls := "ButlerRemembers$Household", name := "addPlan", desc := "(II)I" } : Jvm.MethodName) prog_8_method_9_code (3 : Nat) (Option.some Jvm.ClassFile.FieldType.int)) ∈ tblG := tblG_at 816 (by decide +kernel) (by decide +kernel)
theorem mX11_246 : zKV RX11 246 6 yX6_addPlan cX6_addPlan 3 (some .int) 2 := ⟨⟨_, _, rfl⟩, w813, w814, w815, w70, w816, by decide, by decide, by decide, by decide +kernel⟩
theorem w821 : (Cond.methodLink "ButlerRemembers" (252 : Nat) ({ cls := "ButlerRemembers", name := "dreamOfRow", desc := "(I)V" } : Jvm.MethodName)) ∈ tblG := tblG_at 821 (by decide +kernel) (by decide +kernel)
theorem w823 : (Cond.instanceMethod ({ cls := "ButlerRemembers", name := "dreamOfRow", desc := "(I)V" } : Jvm.MethodName)) ∈ tblG := tblG_at 823 (by decide +kernel) (by decide +kernel)
theorem w27 : Cond.selects "ButlerRemembers" ⟨"ButlerRemembers", "dreamOfRow", "(I)V"⟩ ⟨"ButlerRemembers", "dreamOfRow", "(I)V"⟩ ∈ tblG := tblG_at 27 (by decide +kernel) (by decide +kernel)
theorem w824 : (Cond.code ({ cls := "ButlerRemembers", name := "dreamOfRow", desc := "(I)V" } : Jvm.MethodName) prog_1_method_53_code (5 : Nat) (Option.none : Option Jvm.ClassFile.FieldType)) ∈ tblG := tblG_at 824 (by decide +kernel) (by decide +kernel)
theorem mX11_252 : zKV RX11 252 11 yX11_dreamOfRow cX11_dreamOfRow 5 none 1 := ⟨⟨_, _, rfl⟩, w821, w823, w27, w69, w824, by decide, by decide, by decide, by decide +kernel⟩
theorem w829 : (Cond.methodLink "ButlerRemembers" (259 : Nat) ({ cls := "ButlerRemembers$Household", name := "addBook", desc := "(II)I" } : Jvm.MethodName)) ∈ tblG := tblG_at 829 (by decide +kernel) (by decide +kernel)
theorem w830 : (Cond.instanceMethod ({ cls := "ButlerRemembers$Household", name := "addBook", desc := "(II)I" } : Jvm.MethodName)) ∈ tblG := tblG_at 830 (by decide +kernel) (by decide +kernel)
theorem w831 : (Cond.selects "ButlerRemembers$Household" ({ cls := "ButlerRemembers$Household", name := "addBook", desc := "(II)I" } : Jvm.MethodName) ({ cls := "ButlerRemembers$Household", name := "addBook", desc := "(II)I" } : Jvm.MethodName)) ∈ tblG := tblG_at 831 (by decide +kernel) (by decide +kernel)
theorem w832 : (Cond.code ({ cls := "ButlerRemembers$Household", name := "addBook", desc := "(II)I" } : Jvm.MethodName) prog_8_method_10_code (3 : Nat) (Option.some Jvm.ClassFile.FieldType.int)) ∈ tblG := tblG_at 832 (by decide +kernel) (by decide +kernel)
theorem mX11_259 : zKV RX11 259 6 yX6_addBook cX6_addBook 3 (some .int) 2 := ⟨⟨_, _, rfl⟩, w829, w830, w831, w70, w832, by decide, by decide, by decide, by decide +kernel⟩
theorem w841 : (Cond.methodLink "ButlerRemembers" (265 : Nat) ({ cls := "ButlerRemembers", name := "isTape", desc := "(I)Z" } : Jvm.MethodName)) ∈ tblG := tblG_at 841 (by decide +kernel) (by decide +kernel)
theorem w842 : (Cond.static ({ cls := "ButlerRemembers", name := "isTape", desc := "(I)Z" } : Jvm.MethodName)) ∈ tblG := tblG_at 842 (by decide +kernel) (by decide +kernel)
theorem w843 : (Cond.code ({ cls := "ButlerRemembers", name := "isTape", desc := "(I)Z" } : Jvm.MethodName) prog_1_method_41_code (1 : Nat) (Option.some Jvm.ClassFile.FieldType.boolean)) ∈ tblG := tblG_at 843 (by decide +kernel) (by decide +kernel)
theorem mX11_265 : zKS RX11 265 yX11_isTape cX11_isTape 1 (some .boolean) 1 := ⟨w841, w842, w69, w843, by decide, by decide, by decide, by decide +kernel⟩
theorem w844 : (Cond.methodLink "ButlerRemembers" (268 : Nat) ({ cls := "ButlerRemembers$Tape", name := "holdsRow", desc := "()Z" } : Jvm.MethodName)) ∈ tblG := tblG_at 844 (by decide +kernel) (by decide +kernel)
theorem w845 : (Cond.instanceMethod ({ cls := "ButlerRemembers$Tape", name := "holdsRow", desc := "()Z" } : Jvm.MethodName)) ∈ tblG := tblG_at 845 (by decide +kernel) (by decide +kernel)
theorem w846 : (Cond.selects "ButlerRemembers$Tape" ({ cls := "ButlerRemembers$Tape", name := "holdsRow", desc := "()Z" } : Jvm.MethodName) ({ cls := "ButlerRemembers$Tape", name := "holdsRow", desc := "()Z" } : Jvm.MethodName)) ∈ tblG := tblG_at 846 (by decide +kernel) (by decide +kernel)
theorem w80 : (Cond.initialized "ButlerRemembers$Tape") ∈ tblG := tblG_at 80 (by decide +kernel) (by decide +kernel)
theorem w847 : (Cond.code ({ cls := "ButlerRemembers$Tape", name := "holdsRow", desc := "()Z" } : Jvm.MethodName) prog_10_method_3_code (1 : Nat) (Option.some Jvm.ClassFile.FieldType.boolean)) ∈ tblG := tblG_at 847 (by decide +kernel) (by decide +kernel)
theorem mX11_268 : zKV RX11 268 8 yX8_holdsRow cX8_holdsRow 1 (some .boolean) 0 := ⟨⟨_, _, rfl⟩, w844, w845, w846, w80, w847, by decide, by decide, by decide, by decide +kernel⟩
theorem w848 : (Cond.methodLink "ButlerRemembers" (274 : Nat) ({ cls := "ButlerRemembers$Tape", name := "hasPlace", desc := "(J)Z" } : Jvm.MethodName)) ∈ tblG := tblG_at 848 (by decide +kernel) (by decide +kernel)
theorem w849 : (Cond.instanceMethod ({ cls := "ButlerRemembers$Tape", name := "hasPlace", desc := "(J)Z" } : Jvm.MethodName)) ∈ tblG := tblG_at 849 (by decide +kernel) (by decide +kernel)
theorem w850 : (Cond.selects "ButlerRemembers$Tape" ({ cls := "ButlerRemembers$Tape", name := "hasPlace", desc := "(J)Z" } : Jvm.MethodName) ({ cls := "ButlerRemembers$Tape", name := "hasPlace", desc := "(J)Z" } : Jvm.MethodName)) ∈ tblG := tblG_at 850 (by decide +kernel) (by decide +kernel)
theorem w851 : (Cond.code ({ cls := "ButlerRemembers$Tape", name := "hasPlace", desc := "(J)Z" } : Jvm.MethodName) prog_10_method_4_code (3 : Nat) (Option.some Jvm.ClassFile.FieldType.boolean)) ∈ tblG := tblG_at 851 (by decide +kernel) (by decide +kernel)
theorem mX11_274 : zKV RX11 274 8 yX8_hasPlace cX8_hasPlace 3 (some .boolean) 1 := ⟨⟨_, _, rfl⟩, w848, w849, w850, w80, w851, by decide, by decide, by decide, by decide +kernel⟩
theorem w857 : (Cond.methodLink "ButlerRemembers" (282 : Nat) ({ cls := "ButlerRemembers$Household", name := "copyFrom", desc := "(LButlerRemembers$Household;)V" } : Jvm.MethodName)) ∈ tblG := tblG_at 857 (by decide +kernel) (by decide +kernel)
theorem w858 : (Cond.instanceMethod ({ cls := "ButlerRemembers$Household", name := "copyFrom", desc := "(LButlerRemembers$Household;)V" } : Jvm.MethodName)) ∈ tblG := tblG_at 858 (by decide +kernel) (by decide +kernel)
theorem w859 : (Cond.selects "ButlerRemembers$Household" ({ cls := "ButlerRemembers$Household", name := "copyFrom", desc := "(LButlerRemembers$Household;)V" } : Jvm.MethodName) ({ cls := "ButlerRemembers$Household", name := "copyFrom", desc := "(LButlerRemembers$Household;)V" } : Jvm.MethodName)) ∈ tblG := tblG_at 859 (by decide +kernel) (by decide +kernel)
theorem w860 : (Cond.code ({ cls := "ButlerRemembers$Household", name := "copyFrom", desc := "(LButlerRemembers$Household;)V" } : Jvm.MethodName) prog_8_method_19_code (2 : Nat) (Option.none : Option Jvm.ClassFile.FieldType)) ∈ tblG := tblG_at 860 (by decide +kernel) (by decide +kernel)
theorem mX11_282 : zKV RX11 282 6 yX6_copyFrom cX6_copyFrom 2 none 1 := ⟨⟨_, _, rfl⟩, w857, w858, w859, w70, w860, by decide, by decide, by decide, by decide +kernel⟩
theorem w877 : (Cond.methodLink "ButlerRemembers" (286 : Nat) ({ cls := "ButlerRemembers$Turn", name := "clear", desc := "()V" } : Jvm.MethodName)) ∈ tblG := tblG_at 877 (by decide +kernel) (by decide +kernel)
theorem w878 : (Cond.instanceMethod ({ cls := "ButlerRemembers$Turn", name := "clear", desc := "()V" } : Jvm.MethodName)) ∈ tblG := tblG_at 878 (by decide +kernel) (by decide +kernel)
theorem w879 : (Cond.selects "ButlerRemembers$Turn" ({ cls := "ButlerRemembers$Turn", name := "clear", desc := "()V" } : Jvm.MethodName) ({ cls := "ButlerRemembers$Turn", name := "clear", desc := "()V" } : Jvm.MethodName)) ∈ tblG := tblG_at 879 (by decide +kernel) (by decide +kernel)
theorem w880 : (Cond.code ({ cls := "ButlerRemembers$Turn", name := "clear", desc := "()V" } : Jvm.MethodName) prog_12_method_2_code (1 : Nat) (Option.none : Option Jvm.ClassFile.FieldType)) ∈ tblG := tblG_at 880 (by decide +kernel) (by decide +kernel)
theorem mX11_286 : zKV RX11 286 10 yX10_clear cX10_clear 1 none 0 := ⟨⟨_, _, rfl⟩, w877, w878, w879, w79, w880, by decide, by decide, by decide, by decide +kernel⟩
theorem w419 : (Cond.methodLink "ButlerRemembers" (295 : Nat) ({ cls := "ButlerRemembers", name := "mannersOf", desc := "(I)LButlerRemembers$Master;" } : Jvm.MethodName)) ∈ tblG := tblG_at 419 (by decide +kernel) (by decide +kernel)
theorem w421 : (Cond.instanceMethod ({ cls := "ButlerRemembers", name := "mannersOf", desc := "(I)LButlerRemembers$Master;" } : Jvm.MethodName)) ∈ tblG := tblG_at 421 (by decide +kernel) (by decide +kernel)
theorem w7 : Cond.selects "ButlerRemembers" ⟨"ButlerRemembers", "mannersOf", "(I)LButlerRemembers$Master;"⟩ ⟨"ButlerRemembers", "mannersOf", "(I)LButlerRemembers$Master;"⟩ ∈ tblG := tblG_at 7 (by decide +kernel) (by decide +kernel)
theorem w422 : (Cond.code ({ cls := "ButlerRemembers", name := "mannersOf", desc := "(I)LButlerRemembers$Master;" } : Jvm.MethodName) prog_1_method_45_code (3 : Nat) (Option.some (Jvm.ClassFile.FieldType.object "ButlerRemembers$Master"))) ∈ tblG := tblG_at 422 (by decide +kernel) (by decide +kernel)
theorem mX11_295 : zKV RX11 295 11 yX11_mannersOf cX11_mannersOf 3 (some (.object "ButlerRemembers$Master")) 1 := ⟨⟨_, _, rfl⟩, w419, w421, w7, w69, w422, by decide, by decide, by decide, by decide +kernel⟩
theorem w881 : (Cond.methodLink "ButlerRemembers" (299 : Nat) ({ cls := "ButlerRemembers$Master", name := "dines", desc := "(LButlerRemembers$Turn;I)I" } : Jvm.MethodName)) ∈ tblG := tblG_at 881 (by decide +kernel) (by decide +kernel)
theorem w884 : (Cond.sameMethod "ButlerRemembers$Master" "ButlerRemembers$Master" "dines" "(LButlerRemembers$Turn;I)I") ∈ tblG := tblG_at 884 (by decide +kernel) (by decide +kernel)
theorem w885 : (Cond.selects "ButlerRemembers$Bishop" ({ cls := "ButlerRemembers$Master", name := "dines", desc := "(LButlerRemembers$Turn;I)I" } : Jvm.MethodName) ({ cls := "ButlerRemembers$Bishop", name := "dines", desc := "(LButlerRemembers$Turn;I)I" } : Jvm.MethodName)) ∈ tblG := tblG_at 885 (by decide +kernel) (by decide +kernel)
theorem w886 : (Cond.instanceMethod ({ cls := "ButlerRemembers$Bishop", name := "dines", desc := "(LButlerRemembers$Turn;I)I" } : Jvm.MethodName)) ∈ tblG := tblG_at 886 (by decide +kernel) (by decide +kernel)
theorem w75 : (Cond.initialized "ButlerRemembers$Bishop") ∈ tblG := tblG_at 75 (by decide +kernel) (by decide +kernel)
theorem w887 : (Cond.code ({ cls := "ButlerRemembers$Bishop", name := "dines", desc := "(LButlerRemembers$Turn;I)I" } : Jvm.MethodName) prog_2_method_3_code (3 : Nat) (Option.some Jvm.ClassFile.FieldType.int)) ∈ tblG := tblG_at 887 (by decide +kernel) (by decide +kernel)
theorem mX11_299_0 : zKU RX11 299 0 RX0 "ButlerRemembers$Master" ⟨"ButlerRemembers$Master", "dines", "(LButlerRemembers$Turn;I)I"⟩ yX0_dines cX0_dines 3 (some .int) 2 := ⟨⟨_, _, rfl⟩, w881, w884, w882, ⟨cX7_dines, 3, (some .int), w909⟩, w885, w886, w75, w887, by decide, by decide, by decide, by decide +kernel⟩
theorem w895 : (Cond.selects "ButlerRemembers$Cousin" ({ cls := "ButlerRemembers$Master", name := "dines", desc := "(LButlerRemembers$Turn;I)I" } : Jvm.MethodName) ({ cls := "ButlerRemembers$Master", name := "dines", desc := "(LButlerRemembers$Turn;I)I" } : Jvm.MethodName)) ∈ tblG := tblG_at 895 (by decide +kernel) (by decide +kernel)
theorem mX11_299_1 : zKU RX11 299 1 RX1 "ButlerRemembers$Master" ⟨"ButlerRemembers$Master", "dines", "(LButlerRemembers$Turn;I)I"⟩ yX7_dines cX7_dines 3 (some .int) 2 := ⟨⟨_, _, rfl⟩, w881, w884, w882, ⟨cX7_dines, 3, (some .int), w909⟩, w895, w882, w71, w909, by decide, by decide, by decide, by decide +kernel⟩
theorem w896 : (Cond.selects "ButlerRemembers$Daughter" ({ cls := "ButlerRemembers$Master", name := "dines", desc := "(LButlerRemembers$Turn;I)I" } : Jvm.MethodName) ({ cls := "ButlerRemembers$Duchess", name := "dines", desc := "(LButlerRemembers$Turn;I)I" } : Jvm.MethodName)) ∈ tblG := tblG_at 896 (by decide +kernel) (by decide +kernel)
theorem w897 : (Cond.instanceMethod ({ cls := "ButlerRemembers$Duchess", name := "dines", desc := "(LButlerRemembers$Turn;I)I" } : Jvm.MethodName)) ∈ tblG := tblG_at 897 (by decide +kernel) (by decide +kernel)
theorem w73 : (Cond.initialized "ButlerRemembers$Duchess") ∈ tblG := tblG_at 73 (by decide +kernel) (by decide +kernel)
theorem w898 : (Cond.code ({ cls := "ButlerRemembers$Duchess", name := "dines", desc := "(LButlerRemembers$Turn;I)I" } : Jvm.MethodName) prog_5_method_3_code (3 : Nat) (Option.some Jvm.ClassFile.FieldType.int)) ∈ tblG := tblG_at 898 (by decide +kernel) (by decide +kernel)
theorem mX11_299_2 : zKU RX11 299 2 RX2 "ButlerRemembers$Master" ⟨"ButlerRemembers$Master", "dines", "(LButlerRemembers$Turn;I)I"⟩ yX3_dines cX3_dines 3 (some .int) 2 := ⟨⟨_, _, rfl⟩, w881, w884, w882, ⟨cX7_dines, 3, (some .int), w909⟩, w896, w897, w73, w898, by decide, by decide, by decide, by decide +kernel⟩
theorem w901 : (Cond.selects "ButlerRemembers$Duchess" ({ cls := "ButlerRemembers$Master", name := "dines", desc := "(LButlerRemembers$Turn;I)I" } : Jvm.MethodName) ({ cls := "ButlerRemembers$Duchess", name := "dines", desc := "(LButlerRemembers$Turn;I)I" } : Jvm.MethodName)) ∈ tblG := tblG_at 901 (by decide +kernel) (by decide +kernel)
theorem mX11_299_3 : zKU RX11 299 3 RX3 "ButlerRemembers$Master" ⟨"ButlerRemembers$Master", "dines", "(LButlerRemembers$Turn;I)I"⟩ yX3_dines cX3_dines 3 (some .int) 2 := ⟨⟨_, _, rfl⟩, w881, w884, w882, ⟨cX7_dines, 3, (some .int), w909⟩, w901, w897, w73, w898, by decide, by decide, by decide, by decide +kernel⟩
theorem w902 : (Cond.selects "ButlerRemembers$Heir" ({ cls := "ButlerRemembers$Master", name := "dines", desc := "(LButlerRemembers$Turn;I)I" } : Jvm.MethodName) ({ cls := "ButlerRemembers$Master", name := "dines", desc := "(LButlerRemembers$Turn;I)I" } : Jvm.MethodName)) ∈ tblG := tblG_at 902 (by decide +kernel) (by decide +kernel)
theorem mX11_299_4 : zKU RX11 299 4 RX4 "ButlerRemembers$Master" ⟨"ButlerRemembers$Master", "dines", "(LButlerRemembers$Turn;I)I"⟩ yX7_dines cX7_dines 3 (some .int) 2 := ⟨⟨_, _, rfl⟩, w881, w884, w882, ⟨cX7_dines, 3, (some .int), w909⟩, w902, w882, w71, w909, by decide, by decide, by decide, by decide +kernel⟩
theorem w883 : (Cond.selects "ButlerRemembers$Master" ({ cls := "ButlerRemembers$Master", name := "dines", desc := "(LButlerRemembers$Turn;I)I" } : Jvm.MethodName) ({ cls := "ButlerRemembers$Master", name := "dines", desc := "(LButlerRemembers$Turn;I)I" } : Jvm.MethodName)) ∈ tblG := tblG_at 883 (by decide +kernel) (by decide +kernel)
theorem mX11_299_7 : zKV RX11 299 7 yX7_dines cX7_dines 3 (some .int) 2 := ⟨⟨_, _, rfl⟩, w881, w882, w883, w71, w909, by decide, by decide, by decide, by decide +kernel⟩
theorem w903 : (Cond.selects "ButlerRemembers$Told" ({ cls := "ButlerRemembers$Master", name := "dines", desc := "(LButlerRemembers$Turn;I)I" } : Jvm.MethodName) ({ cls := "ButlerRemembers$Told", name := "dines", desc := "(LButlerRemembers$Turn;I)I" } : Jvm.MethodName)) ∈ tblG := tblG_at 903 (by decide +kernel) (by decide +kernel)
theorem w904 : (Cond.instanceMethod ({ cls := "ButlerRemembers$Told", name := "dines", desc := "(LButlerRemembers$Turn;I)I" } : Jvm.MethodName)) ∈ tblG := tblG_at 904 (by decide +kernel) (by decide +kernel)
theorem w905 : (Cond.code ({ cls := "ButlerRemembers$Told", name := "dines", desc := "(LButlerRemembers$Turn;I)I" } : Jvm.MethodName) prog_11_method_4_code (3 : Nat) (Option.some Jvm.ClassFile.FieldType.int)) ∈ tblG := tblG_at 905 (by decide +kernel) (by decide +kernel)
theorem mX11_299_9 : zKU RX11 299 9 RX9 "ButlerRemembers$Master" ⟨"ButlerRemembers$Master", "dines", "(LButlerRemembers$Turn;I)I"⟩ yX9_dines cX9_dines 3 (some .int) 2 := ⟨⟨_, _, rfl⟩, w881, w884, w882, ⟨cX7_dines, 3, (some .int), w909⟩, w903, w904, w77, w905, by decide, by decide, by decide, by decide +kernel⟩
theorem w911 : (Cond.methodLink "ButlerRemembers" (303 : Nat) ({ cls := "ButlerRemembers$Master", name := "nods", desc := "(LButlerRemembers$Turn;I)I" } : Jvm.MethodName)) ∈ tblG := tblG_at 911 (by decide +kernel) (by decide +kernel)
theorem w914 : (Cond.sameMethod "ButlerRemembers$Master" "ButlerRemembers$Master" "nods" "(LButlerRemembers$Turn;I)I") ∈ tblG := tblG_at 914 (by decide +kernel) (by decide +kernel)
theorem w915 : (Cond.selects "ButlerRemembers$Bishop" ({ cls := "ButlerRemembers$Master", name := "nods", desc := "(LButlerRemembers$Turn;I)I" } : Jvm.MethodName) ({ cls := "ButlerRemembers$Bishop", name := "nods", desc := "(LButlerRemembers$Turn;I)I" } : Jvm.MethodName)) ∈ tblG := tblG_at 915 (by decide +kernel) (by decide +kernel)
theorem w916 : (Cond.instanceMethod ({ cls := "ButlerRemembers$Bishop", name := "nods", desc := "(LButlerRemembers$Turn;I)I" } : Jvm.MethodName)) ∈ tblG := tblG_at 916 (by decide +kernel) (by decide +kernel)
theorem w917 : (Cond.code ({ cls := "ButlerRemembers$Bishop", name := "nods", desc := "(LButlerRemembers$Turn;I)I" } : Jvm.MethodName) prog_2_method_4_code (3 : Nat) (Option.some Jvm.ClassFile.FieldType.int)) ∈ tblG := tblG_at 917 (by decide +kernel) (by decide +kernel)
theorem mX11_303_0 : zKU RX11 303 0 RX0 "ButlerRemembers$Master" ⟨"ButlerRemembers$Master", "nods", "(LButlerRemembers$Turn;I)I"⟩ yX0_nods cX0_nods 3 (some .int) 2 := ⟨⟨_, _, rfl⟩, w911, w914, w912, ⟨cX7_nods, 3, (some .int), w933⟩, w915, w916, w75, w917, by decide, by decide, by decide, by decide +kernel⟩
theorem w923 : (Cond.selects "ButlerRemembers$Cousin" ({ cls := "ButlerRemembers$Master", name := "nods", desc := "(LButlerRemembers$Turn;I)I" } : Jvm.MethodName) ({ cls := "ButlerRemembers$Master", name := "nods", desc := "(LButlerRemembers$Turn;I)I" } : Jvm.MethodName)) ∈ tblG := tblG_at 923 (by decide +kernel) (by decide +kernel)
theorem mX11_303_1 : zKU RX11 303 1 RX1 "ButlerRemembers$Master" ⟨"ButlerRemembers$Master", "nods", "(LButlerRemembers$Turn;I)I"⟩ yX7_nods cX7_nods 3 (some .int) 2 := ⟨⟨_, _, rfl⟩, w911, w914, w912, ⟨cX7_nods, 3, (some .int), w933⟩, w923, w912, w71, w933, by decide, by decide, by decide, by decide +kernel⟩
theorem w924 : (Cond.selects "ButlerRemembers$Daughter" ({ cls := "ButlerRemembers$Master", name := "nods", desc := "(LButlerRemembers$Turn;I)I" } : Jvm.MethodName) ({ cls := "ButlerRemembers$Master", name := "nods", desc := "(LButlerRemembers$Turn;I)I" } : Jvm.MethodName)) ∈ tblG := tblG_at 924 (by decide +kernel) (by decide +kernel)
theorem mX11_303_2 : zKU RX11 303 2 RX2 "ButlerRemembers$Master" ⟨"ButlerRemembers$Master", "nods", "(LButlerRemembers$Turn;I)I"⟩ yX7_nods cX7_nods 3 (some .int) 2 := ⟨⟨_, _, rfl⟩, w911, w914, w912, ⟨cX7_nods, 3, (some .int), w933⟩, w924, w912, w71, w933, by decide, by decide, by decide, by decide +kernel⟩
theorem w925 : (Cond.selects "ButlerRemembers$Duchess" ({ cls := "ButlerRemembers$Master", name := "nods", desc := "(LButlerRemembers$Turn;I)I" } : Jvm.MethodName) ({ cls := "ButlerRemembers$Master", name := "nods", desc := "(LButlerRemembers$Turn;I)I" } : Jvm.MethodName)) ∈ tblG := tblG_at 925 (by decide +kernel) (by decide +kernel)
theorem mX11_303_3 : zKU RX11 303 3 RX3 "ButlerRemembers$Master" ⟨"ButlerRemembers$Master", "nods", "(LButlerRemembers$Turn;I)I"⟩ yX7_nods cX7_nods 3 (some .int) 2 := ⟨⟨_, _, rfl⟩, w911, w914, w912, ⟨cX7_nods, 3, (some .int), w933⟩, w925, w912, w71, w933, by decide, by decide, by decide, by decide +kernel⟩
theorem w926 : (Cond.selects "ButlerRemembers$Heir" ({ cls := "ButlerRemembers$Master", name := "nods", desc := "(LButlerRemembers$Turn;I)I" } : Jvm.MethodName) ({ cls := "ButlerRemembers$Heir", name := "nods", desc := "(LButlerRemembers$Turn;I)I" } : Jvm.MethodName)) ∈ tblG := tblG_at 926 (by decide +kernel) (by decide +kernel)
theorem mX11_303_4 : zKU RX11 303 4 RX4 "ButlerRemembers$Master" ⟨"ButlerRemembers$Master", "nods", "(LButlerRemembers$Turn;I)I"⟩ yX4_nods cX4_nods 3 (some .int) 2 := ⟨⟨_, _, rfl⟩, w911, w914, w912, ⟨cX7_nods, 3, (some .int), w933⟩, w926, w919, w72, w920, by decide, by decide, by decide, by decide +kernel⟩
theorem w913 : (Cond.selects "ButlerRemembers$Master" ({ cls := "ButlerRemembers$Master", name := "nods", desc := "(LButlerRemembers$Turn;I)I" } : Jvm.MethodName) ({ cls := "ButlerRemembers$Master", name := "nods", desc := "(LButlerRemembers$Turn;I)I" } : Jvm.MethodName)) ∈ tblG := tblG_at 913 (by decide +kernel) (by decide +kernel)
theorem mX11_303_7 : zKV RX11 303 7 yX7_nods cX7_nods 3 (some .int) 2 := ⟨⟨_, _, rfl⟩, w911, w912, w913, w71, w933, by decide, by decide, by decide, by decide +kernel⟩
theorem w927 : (Cond.selects "ButlerRemembers$Told" ({ cls := "ButlerRemembers$Master", name := "nods", desc := "(LButlerRemembers$Turn;I)I" } : Jvm.MethodName) ({ cls := "ButlerRemembers$Told", name := "nods", desc := "(LButlerRemembers$Turn;I)I" } : Jvm.MethodName)) ∈ tblG := tblG_at 927 (by decide +kernel) (by decide +kernel)
theorem mX11_303_9 : zKU RX11 303 9 RX9 "ButlerRemembers$Master" ⟨"ButlerRemembers$Master", "nods", "(LButlerRemembers$Turn;I)I"⟩ yX9_nods cX9_nods 3 (some .int) 2 := ⟨⟨_, _, rfl⟩, w911, w914, w912, ⟨cX7_nods, 3, (some .int), w933⟩, w927, w928, w77, w929, by decide, by decide, by decide, by decide +kernel⟩
theorem w935 : (Cond.methodLink "ButlerRemembers" (306 : Nat) ({ cls := "ButlerRemembers$Master", name := "tells", desc := "(LButlerRemembers$Turn;I)I" } : Jvm.MethodName)) ∈ tblG := tblG_at 935 (by decide +kernel) (by decide +kernel)
theorem w939 : (Cond.selects "ButlerRemembers$Bishop" ({ cls := "ButlerRemembers$Master", name := "tells", desc := "(LButlerRemembers$Turn;I)I" } : Jvm.MethodName) ({ cls := "ButlerRemembers$Master", name := "tells", desc := "(LButlerRemembers$Turn;I)I" } : Jvm.MethodName)) ∈ tblG := tblG_at 939 (by decide +kernel) (by decide +kernel)
theorem mX11_306_0 : zKU RX11 306 0 RX0 "ButlerRemembers$Master" ⟨"ButlerRemembers$Master", "tells", "(LButlerRemembers$Turn;I)I"⟩ yX7_tells cX7_tells 3 (some .int) 2 := ⟨⟨_, _, rfl⟩, w935, w938, w936, ⟨cX7_tells, 3, (some .int), w958⟩, w939, w936, w71, w958, by decide, by decide, by decide, by decide +kernel⟩
theorem w940 : (Cond.selects "ButlerRemembers$Cousin" ({ cls := "ButlerRemembers$Master", name := "tells", desc := "(LButlerRemembers$Turn;I)I" } : Jvm.MethodName) ({ cls := "ButlerRemembers$Cousin", name := "tells", desc := "(LButlerRemembers$Turn;I)I" } : Jvm.MethodName)) ∈ tblG := tblG_at 940 (by decide +kernel) (by decide +kernel)
theorem w941 : (Cond.instanceMethod ({ cls := "ButlerRemembers$Cousin", name := "tells", desc := "(LButlerRemembers$Turn;I)I" } : Jvm.MethodName)) ∈ tblG := tblG_at 941 (by decide +kernel) (by decide +kernel)
theorem w74 : (Cond.initialized "ButlerRemembers$Cousin") ∈ tblG := tblG_at 74 (by decide +kernel) (by decide +kernel)
theorem w942 : (Cond.code ({ cls := "ButlerRemembers$Cousin", name := "tells", desc := "(LButlerRemembers$Turn;I)I" } : Jvm.MethodName) prog_3_method_3_code (3 : Nat) (Option.some Jvm.ClassFile.FieldType.int)) ∈ tblG := tblG_at 942 (by decide +kernel) (by decide +kernel)
theorem mX11_306_1 : zKU RX11 306 1 RX1 "ButlerRemembers$Master" ⟨"ButlerRemembers$Master", "tells", "(LButlerRemembers$Turn;I)I"⟩ yX1_tells cX1_tells 3 (some .int) 2 := ⟨⟨_, _, rfl⟩, w935, w938, w936, ⟨cX7_tells, 3, (some .int), w958⟩, w940, w941, w74, w942, by decide, by decide, by decide, by decide +kernel⟩
theorem w948 : (Cond.selects "ButlerRemembers$Daughter" ({ cls := "ButlerRemembers$Master", name := "tells", desc := "(LButlerRemembers$Turn;I)I" } : Jvm.MethodName) ({ cls := "ButlerRemembers$Daughter", name := "tells", desc := "(LButlerRemembers$Turn;I)I" } : Jvm.MethodName)) ∈ tblG := tblG_at 948 (by decide +kernel) (by decide +kernel)
theorem w949 : (Cond.instanceMethod ({ cls := "ButlerRemembers$Daughter", name := "tells", desc := "(LButlerRemembers$Turn;I)I" } : Jvm.MethodName)) ∈ tblG := tblG_at 949 (by decide +kernel) (by decide +kernel)
theorem w76 : (Cond.initialized "ButlerRemembers$Daughter") ∈ tblG := tblG_at 76 (by decide +kernel) (by decide +kernel)
theorem w950 : (Cond.code ({ cls := "ButlerRemembers$Daughter", name := "tells", desc := "(LButlerRemembers$Turn;I)I" } : Jvm.MethodName) prog_4_method_3_code (3 : Nat) (Option.some Jvm.ClassFile.FieldType.int)) ∈ tblG := tblG_at 950 (by decide +kernel) (by decide +kernel)
theorem mX11_306_2 : zKU RX11 306 2 RX2 "ButlerRemembers$Master" ⟨"ButlerRemembers$Master", "tells", "(LButlerRemembers$Turn;I)I"⟩ yX2_tells cX2_tells 3 (some .int) 2 := ⟨⟨_, _, rfl⟩, w935, w938, w936, ⟨cX7_tells, 3, (some .int), w958⟩, w948, w949, w76, w950, by decide, by decide, by decide, by decide +kernel⟩
theorem w955 : (Cond.selects "ButlerRemembers$Duchess" ({ cls := "ButlerRemembers$Master", name := "tells", desc := "(LButlerRemembers$Turn;I)I" } : Jvm.MethodName) ({ cls := "ButlerRemembers$Master", name := "tells", desc := "(LButlerRemembers$Turn;I)I" } : Jvm.MethodName)) ∈ tblG := tblG_at 955 (by decide +kernel) (by decide +kernel)
theorem mX11_306_3 : zKU RX11 306 3 RX3 "ButlerRemembers$Master" ⟨"ButlerRemembers$Master", "tells", "(LButlerRemembers$Turn;I)I"⟩ yX7_tells cX7_tells 3 (some .int) 2 := ⟨⟨_, _, rfl⟩, w935, w938, w936, ⟨cX7_tells, 3, (some .int), w958⟩, w955, w936, w71, w958, by decide, by decide, by decide, by decide +kernel⟩
theorem w956 : (Cond.selects "ButlerRemembers$Heir" ({ cls := "ButlerRemembers$Master", name := "tells", desc := "(LButlerRemembers$Turn;I)I" } : Jvm.MethodName) ({ cls := "ButlerRemembers$Master", name := "tells", desc := "(LButlerRemembers$Turn;I)I" } : Jvm.MethodName)) ∈ tblG := tblG_at 956 (by decide +kernel) (by decide +kernel)
theorem mX11_306_4 : zKU RX11 306 4 RX4 "ButlerRemembers$Master" ⟨"ButlerRemembers$Master", "tells", "(LButlerRemembers$Turn;I)I"⟩ yX7_tells cX7_tells 3 (some .int) 2 := ⟨⟨_, _, rfl⟩, w935, w938, w936, ⟨cX7_tells, 3, (some .int), w958⟩, w956, w936, w71, w958, by decide, by decide, by decide, by decide +kernel⟩
theorem w937 : (Cond.selects "ButlerRemembers$Master" ({ cls := "ButlerRemembers$Master", name := "tells", desc := "(LButlerRemembers$Turn;I)I" } : Jvm.MethodName) ({ cls := "ButlerRemembers$Master", name := "tells", desc := "(LButlerRemembers$Turn;I)I" } : Jvm.MethodName)) ∈ tblG := tblG_at 937 (by decide +kernel) (by decide +kernel)
theorem mX11_306_7 : zKV RX11 306 7 yX7_tells cX7_tells 3 (some .int) 2 := ⟨⟨_, _, rfl⟩, w935, w936, w937, w71, w958, by decide, by decide, by decide, by decide +kernel⟩
theorem w957 : (Cond.selects "ButlerRemembers$Told" ({ cls := "ButlerRemembers$Master", name := "tells", desc := "(LButlerRemembers$Turn;I)I" } : Jvm.MethodName) ({ cls := "ButlerRemembers$Cousin", name := "tells", desc := "(LButlerRemembers$Turn;I)I" } : Jvm.MethodName)) ∈ tblG := tblG_at 957 (by decide +kernel) (by decide +kernel)
theorem mX11_306_9 : zKU RX11 306 9 RX9 "ButlerRemembers$Master" ⟨"ButlerRemembers$Master", "tells", "(LButlerRemembers$Turn;I)I"⟩ yX1_tells cX1_tells 3 (some .int) 2 := ⟨⟨_, _, rfl⟩, w935, w938, w936, ⟨cX7_tells, 3, (some .int), w958⟩, w957, w941, w74, w942, by decide, by decide, by decide, by decide +kernel⟩
theorem w964 : (Cond.methodLink "ButlerRemembers" (309 : Nat) ({ cls := "ButlerRemembers$Turn", name := "keptCount", desc := "()I" } : Jvm.MethodName)) ∈ tblG := tblG_at 964 (by decide +kernel) (by decide +kernel)
theorem w965 : (Cond.instanceMethod ({ cls := "ButlerRemembers$Turn", name := "keptCount", desc := "()I" } : Jvm.MethodName)) ∈ tblG := tblG_at 965 (by decide +kernel) (by decide +kernel)
theorem w966 : (Cond.selects "ButlerRemembers$Turn" ({ cls := "ButlerRemembers$Turn", name := "keptCount", desc := "()I" } : Jvm.MethodName) ({ cls := "ButlerRemembers$Turn", name := "keptCount", desc := "()I" } : Jvm.MethodName)) ∈ tblG := tblG_at 966 (by decide +kernel) (by decide +kernel)
theorem w967 : (Cond.code ({ cls := "ButlerRemembers$Turn", name := "keptCount", desc := "()I" } : Jvm.MethodName) prog_12_method_4_code (1 : Nat) (Option.some Jvm.ClassFile.FieldType.int)) ∈ tblG := tblG_at 967 (by decide +kernel) (by decide +kernel)
theorem mX11_309 : zKV RX11 309 10 yX10_keptCount cX10_keptCount 1 (some .int) 0 := ⟨⟨_, _, rfl⟩, w964, w965, w966, w79, w967, by decide, by decide, by decide, by decide +kernel⟩
theorem w973 : (Cond.methodLink "ButlerRemembers" (315 : Nat) ({ cls := "ButlerRemembers", name := "isUnder", desc := "(LButlerRemembers$Master;I)Z" } : Jvm.MethodName)) ∈ tblG := tblG_at 973 (by decide +kernel) (by decide +kernel)
theorem w974 : (Cond.static ({ cls := "ButlerRemembers", name := "isUnder", desc := "(LButlerRemembers$Master;I)Z" } : Jvm.MethodName)) ∈ tblG := tblG_at 974 (by decide +kernel) (by decide +kernel)
theorem w975 : (Cond.code ({ cls := "ButlerRemembers", name := "isUnder", desc := "(LButlerRemembers$Master;I)Z" } : Jvm.MethodName) prog_1_method_42_code (2 : Nat) (Option.some Jvm.ClassFile.FieldType.boolean)) ∈ tblG := tblG_at 975 (by decide +kernel) (by decide +kernel)
theorem mX11_315 : zKS RX11 315 yX11_isUnder cX11_isUnder 2 (some .boolean) 2 := ⟨w973, w974, w69, w975, by decide, by decide, by decide, by decide +kernel⟩
theorem w984 : (Cond.methodLink "ButlerRemembers" (325 : Nat) ({ cls := "ButlerRemembers$Tape", name := "become", desc := "(II)V" } : Jvm.MethodName)) ∈ tblG := tblG_at 984 (by decide +kernel) (by decide +kernel)
theorem w985 : (Cond.instanceMethod ({ cls := "ButlerRemembers$Tape", name := "become", desc := "(II)V" } : Jvm.MethodName)) ∈ tblG := tblG_at 985 (by decide +kernel) (by decide +kernel)
theorem w986 : (Cond.selects "ButlerRemembers$Tape" ({ cls := "ButlerRemembers$Tape", name := "become", desc := "(II)V" } : Jvm.MethodName) ({ cls := "ButlerRemembers$Tape", name := "become", desc := "(II)V" } : Jvm.MethodName)) ∈ tblG := tblG_at 986 (by decide +kernel) (by decide +kernel)
theorem w987 : (Cond.code ({ cls := "ButlerRemembers$Tape", name := "become", desc := "(II)V" } : Jvm.MethodName) prog_10_method_2_code (3 : Nat) (Option.none : Option Jvm.ClassFile.FieldType)) ∈ tblG := tblG_at 987 (by decide +kernel) (by decide +kernel)
theorem mX11_325 : zKV RX11 325 8 yX8_become cX8_become 3 none 2 := ⟨⟨_, _, rfl⟩, w984, w985, w986, w80, w987, by decide, by decide, by decide, by decide +kernel⟩
theorem w995 : (Cond.methodLink "ButlerRemembers" (329 : Nat) ({ cls := "ButlerRemembers$Tape", name := "narrowed", desc := "(J)J" } : Jvm.MethodName)) ∈ tblG := tblG_at 995 (by decide +kernel) (by decide +kernel)
theorem w996 : (Cond.instanceMethod ({ cls := "ButlerRemembers$Tape", name := "narrowed", desc := "(J)J" } : Jvm.MethodName)) ∈ tblG := tblG_at 996 (by decide +kernel) (by decide +kernel)
theorem w997 : (Cond.selects "ButlerRemembers$Tape" ({ cls := "ButlerRemembers$Tape", name := "narrowed", desc := "(J)J" } : Jvm.MethodName) ({ cls := "ButlerRemembers$Tape", name := "narrowed", desc := "(J)J" } : Jvm.MethodName)) ∈ tblG := tblG_at 997 (by decide +kernel) (by decide +kernel)
theorem w998 : (Cond.code ({ cls := "ButlerRemembers$Tape", name := "narrowed", desc := "(J)J" } : Jvm.MethodName) prog_10_method_6_code (3 : Nat) (Option.some Jvm.ClassFile.FieldType.long)) ∈ tblG := tblG_at 998 (by decide +kernel) (by decide +kernel)
theorem mX11_329 : zKV RX11 329 8 yX8_narrowed cX8_narrowed 3 (some .long) 1 := ⟨⟨_, _, rfl⟩, w995, w996, w997, w80, w998, by decide, by decide, by decide, by decide +kernel⟩
theorem w1007 : (Cond.methodLink "ButlerRemembers" (333 : Nat) ({ cls := "ButlerRemembers$Tape", name := "hasStretch", desc := "(II)Z" } : Jvm.MethodName)) ∈ tblG := tblG_at 1007 (by decide +kernel) (by decide +kernel)
theorem w1008 : (Cond.instanceMethod ({ cls := "ButlerRemembers$Tape", name := "hasStretch", desc := "(II)Z" } : Jvm.MethodName)) ∈ tblG := tblG_at 1008 (by decide +kernel) (by decide +kernel)
theorem w1009 : (Cond.selects "ButlerRemembers$Tape" ({ cls := "ButlerRemembers$Tape", name := "hasStretch", desc := "(II)Z" } : Jvm.MethodName) ({ cls := "ButlerRemembers$Tape", name := "hasStretch", desc := "(II)Z" } : Jvm.MethodName)) ∈ tblG := tblG_at 1009 (by decide +kernel) (by decide +kernel)
theorem w1010 : (Cond.code ({ cls := "ButlerRemembers$Tape", name := "hasStretch", desc := "(II)Z" } : Jvm.MethodName) prog_10_method_5_code (3 : Nat) (Option.some Jvm.ClassFile.FieldType.boolean)) ∈ tblG := tblG_at 1010 (by decide +kernel) (by decide +kernel)
theorem mX11_333 : zKV RX11 333 8 yX8_hasStretch cX8_hasStretch 3 (some .boolean) 2 := ⟨⟨_, _, rfl⟩, w1007, w1008, w1009, w80, w1010, by decide, by decide, by decide, by decide +kernel⟩
theorem w423 : (Cond.methodLink "ButlerRemembers" (342 : Nat) ({ cls := "ButlerRemembers$Master", name := "firmness", desc := "(IIIII)I" } : Jvm.MethodName)) ∈ tblG := tblG_at 423 (by decide +kernel) (by decide +kernel)
theorem w427 : (Cond.selects "ButlerRemembers$Bishop" ({ cls := "ButlerRemembers$Master", name := "firmness", desc := "(IIIII)I" } : Jvm.MethodName) ({ cls := "ButlerRemembers$Bishop", name := "firmness", desc := "(IIIII)I" } : Jvm.MethodName)) ∈ tblG := tblG_at 427 (by decide +kernel) (by decide +kernel)
theorem w428 : (Cond.instanceMethod ({ cls := "ButlerRemembers$Bishop", name := "firmness", desc := "(IIIII)I" } : Jvm.MethodName)) ∈ tblG := tblG_at 428 (by decide +kernel) (by decide +kernel)
theorem w429 : (Cond.code ({ cls := "ButlerRemembers$Bishop", name := "firmness", desc := "(IIIII)I" } : Jvm.MethodName) prog_2_method_2_code (6 : Nat) (Option.some Jvm.ClassFile.FieldType.int)) ∈ tblG := tblG_at 429 (by decide +kernel) (by decide +kernel)
theorem mX11_342_0 : zKU RX11 342 0 RX0 "ButlerRemembers$Master" ⟨"ButlerRemembers$Master", "firmness", "(IIIII)I"⟩ yX0_firmness cX0_firmness 6 (some .int) 5 := ⟨⟨_, _, rfl⟩, w423, w426, w424, ⟨cX7_firmness, 6, (some .int), w451⟩, w427, w428, w75, w429, by decide, by decide, by decide, by decide +kernel⟩
theorem w434 : (Cond.selects "ButlerRemembers$Cousin" ({ cls := "ButlerRemembers$Master", name := "firmness", desc := "(IIIII)I" } : Jvm.MethodName) ({ cls := "ButlerRemembers$Cousin", name := "firmness", desc := "(IIIII)I" } : Jvm.MethodName)) ∈ tblG := tblG_at 434 (by decide +kernel) (by decide +kernel)
theorem w435 : (Cond.instanceMethod ({ cls := "ButlerRemembers$Cousin", name := "firmness", desc := "(IIIII)I" } : Jvm.MethodName)) ∈ tblG := tblG_at 435 (by decide +kernel) (by decide +kernel)
theorem w436 : (Cond.code ({ cls := "ButlerRemembers$Cousin", name := "firmness", desc := "(IIIII)I" } : Jvm.MethodName) prog_3_method_2_code (6 : Nat) (Option.some Jvm.ClassFile.FieldType.int)) ∈ tblG := tblG_at 436 (by decide +kernel) (by decide +kernel)
theorem mX11_342_1 : zKU RX11 342 1 RX1 "ButlerRemembers$Master" ⟨"ButlerRemembers$Master", "firmness", "(IIIII)I"⟩ yX1_firmness cX1_firmness 6 (some .int) 5 := ⟨⟨_, _, rfl⟩, w423, w426, w424, ⟨cX7_firmness, 6, (some .int), w451⟩, w434, w435, w74, w436, by decide, by decide, by decide, by decide +kernel⟩
theorem w438 : (Cond.selects "ButlerRemembers$Daughter" ({ cls := "ButlerRemembers$Master", name := "firmness", desc := "(IIIII)I" } : Jvm.MethodName) ({ cls := "ButlerRemembers$Daughter", name := "firmness", desc := "(IIIII)I" } : Jvm.MethodName)) ∈ tblG := tblG_at 438 (by decide +kernel) (by decide +kernel)
theorem w439 : (Cond.instanceMethod ({ cls := "ButlerRemembers$Daughter", name := "firmness", desc := "(IIIII)I" } : Jvm.MethodName)) ∈ tblG := tblG_at 439 (by decide +kernel) (by decide +kernel)
theorem w440 : (Cond.code ({ cls := "ButlerRemembers$Daughter", name := "firmness", desc := "(IIIII)I" } : Jvm.MethodName) prog_4_method_2_code (6 : Nat) (Option.some Jvm.ClassFile.FieldType.int)) ∈ tblG := tblG_at 440 (by decide +kernel) (by decide +kernel)
theorem mX11_342_2 : zKU RX11 342 2 RX2 "ButlerRemembers$Master" ⟨"ButlerRemembers$Master", "firmness", "(IIIII)I"⟩ yX2_firmness cX2_firmness 6 (some .int) 5 := ⟨⟨_, _, rfl⟩, w423, w426, w424, ⟨cX7_firmness, 6, (some .int), w451⟩, w438, w439, w76, w440, by decide, by decide, by decide, by decide +kernel⟩
theorem w445 : (Cond.selects "ButlerRemembers$Duchess" ({ cls := "ButlerRemembers$Master", name := "firmness", desc := "(IIIII)I" } : Jvm.MethodName) ({ cls := "ButlerRemembers$Duchess", name := "firmness", desc := "(IIIII)I" } : Jvm.MethodName)) ∈ tblG := tblG_at 445 (by decide +kernel) (by decide +kernel)
theorem w442 : (Cond.instanceMethod ({ cls := "ButlerRemembers$Duchess", name := "firmness", desc := "(IIIII)I" } : Jvm.MethodName)) ∈ tblG := tblG_at 442 (by decide +kernel) (by decide +kernel)
theorem w443 : (Cond.code ({ cls := "ButlerRemembers$Duchess", name := "firmness", desc := "(IIIII)I" } : Jvm.MethodName) prog_5_method_2_code (6 : Nat) (Option.some Jvm.ClassFile.FieldType.int)) ∈ tblG := tblG_at 443 (by decide +kernel) (by decide +kernel)
theorem mX11_342_3 : zKU RX11 342 3 RX3 "ButlerRemembers$Master" ⟨"ButlerRemembers$Master", "firmness", "(IIIII)I"⟩ yX3_firmness cX3_firmness 6 (some .int) 5 := ⟨⟨_, _, rfl⟩, w423, w426, w424, ⟨cX7_firmness, 6, (some .int), w451⟩, w445, w442, w73, w443, by decide, by decide, by decide, by decide +kernel⟩
theorem w446 : (Cond.selects "ButlerRemembers$Heir" ({ cls := "ButlerRemembers$Master", name := "firmness", desc := "(IIIII)I" } : Jvm.MethodName) ({ cls := "ButlerRemembers$Heir", name := "firmness", desc := "(IIIII)I" } : Jvm.MethodName)) ∈ tblG := tblG_at 446 (by decide +kernel) (by decide +kernel)
theorem mX11_342_4 : zKU RX11 342 4 RX4 "ButlerRemembers$Master" ⟨"ButlerRemembers$Master", "firmness", "(IIIII)I"⟩ yX4_firmness cX4_firmness 6 (some .int) 5 := ⟨⟨_, _, rfl⟩, w423, w426, w424, ⟨cX7_firmness, 6, (some .int), w451⟩, w446, w431, w72, w432, by decide, by decide, by decide, by decide +kernel⟩
theorem w425 : (Cond.selects "ButlerRemembers$Master" ({ cls := "ButlerRemembers$Master", name := "firmness", desc := "(IIIII)I" } : Jvm.MethodName) ({ cls := "ButlerRemembers$Master", name := "firmness", desc := "(IIIII)I" } : Jvm.MethodName)) ∈ tblG := tblG_at 425 (by decide +kernel) (by decide +kernel)
theorem mX11_342_7 : zKV RX11 342 7 yX7_firmness cX7_firmness 6 (some .int) 5 := ⟨⟨_, _, rfl⟩, w423, w424, w425, w71, w451, by decide, by decide, by decide, by decide +kernel⟩
theorem w447 : (Cond.selects "ButlerRemembers$Told" ({ cls := "ButlerRemembers$Master", name := "firmness", desc := "(IIIII)I" } : Jvm.MethodName) ({ cls := "ButlerRemembers$Told", name := "firmness", desc := "(IIIII)I" } : Jvm.MethodName)) ∈ tblG := tblG_at 447 (by decide +kernel) (by decide +kernel)
theorem w448 : (Cond.instanceMethod ({ cls := "ButlerRemembers$Told", name := "firmness", desc := "(IIIII)I" } : Jvm.MethodName)) ∈ tblG := tblG_at 448 (by decide +kernel) (by decide +kernel)
theorem w449 : (Cond.code ({ cls := "ButlerRemembers$Told", name := "firmness", desc := "(IIIII)I" } : Jvm.MethodName) prog_11_method_2_code (6 : Nat) (Option.some Jvm.ClassFile.FieldType.int)) ∈ tblG := tblG_at 449 (by decide +kernel) (by decide +kernel)
theorem mX11_342_9 : zKU RX11 342 9 RX9 "ButlerRemembers$Master" ⟨"ButlerRemembers$Master", "firmness", "(IIIII)I"⟩ yX9_firmness cX9_firmness 6 (some .int) 5 := ⟨⟨_, _, rfl⟩, w423, w426, w424, ⟨cX7_firmness, 6, (some .int), w451⟩, w447, w448, w77, w449, by decide, by decide, by decide, by decide +kernel⟩
theorem w379 : (Cond.methodLink "ButlerRemembers" (346 : Nat) ({ cls := "ButlerRemembers", name := "keptInNight", desc := "(IIII)I" } : Jvm.MethodName)) ∈ tblG := tblG_at 379 (by decide +kernel) (by decide +kernel)
theorem w381 : (Cond.instanceMethod ({ cls := "ButlerRemembers", name := "keptInNight", desc := "(IIII)I" } : Jvm.MethodName)) ∈ tblG := tblG_at 381 (by decide +kernel) (by decide +kernel)
theorem w1 : Cond.selects "ButlerRemembers" ⟨"ButlerRemembers", "keptInNight", "(IIII)I"⟩ ⟨"ButlerRemembers", "keptInNight", "(IIII)I"⟩ ∈ tblG := tblG_at 1 (by decide +kernel) (by decide +kernel)
theorem w382 : (Cond.code ({ cls := "ButlerRemembers", name := "keptInNight", desc := "(IIII)I" } : Jvm.MethodName) prog_1_method_47_code (8 : Nat) (Option.some Jvm.ClassFile.FieldType.int)) ∈ tblG := tblG_at 382 (by decide +kernel) (by decide +kernel)
theorem mX11_346 : zKV RX11 346 11 yX11_keptInNight cX11_keptInNight 8 (some .int) 4 := ⟨⟨_, _, rfl⟩, w379, w381, w1, w69, w382, by decide, by decide, by decide, by decide +kernel⟩
theorem w712 : (Cond.methodLink "ButlerRemembers" (349 : Nat) ({ cls := "ButlerRemembers", name := "tellDreamers", desc := "(I)I" } : Jvm.MethodName)) ∈ tblG := tblG_at 712 (by decide +kernel) (by decide +kernel)
theorem w714 : (Cond.instanceMethod ({ cls := "ButlerRemembers", name := "tellDreamers", desc := "(I)I" } : Jvm.MethodName)) ∈ tblG := tblG_at 714 (by decide +kernel) (by decide +kernel)
theorem w21 : Cond.selects "ButlerRemembers" ⟨"ButlerRemembers", "tellDreamers", "(I)I"⟩ ⟨"ButlerRemembers", "tellDreamers", "(I)I"⟩ ∈ tblG := tblG_at 21 (by decide +kernel) (by decide +kernel)
theorem w715 : (Cond.code ({ cls := "ButlerRemembers", name := "tellDreamers", desc := "(I)I" } : Jvm.MethodName) prog_1_method_55_code (5 : Nat) (Option.some Jvm.ClassFile.FieldType.int)) ∈ tblG := tblG_at 715 (by decide +kernel) (by decide +kernel)
theorem mX11_349 : zKV RX11 349 11 yX11_tellDreamers cX11_tellDreamers 5 (some .int) 1 := ⟨⟨_, _, rfl⟩, w712, w714, w21, w69, w715, by decide, by decide, by decide, by decide +kernel⟩
theorem w716 : (Cond.methodLink "ButlerRemembers" (352 : Nat) ({ cls := "ButlerRemembers$Household", name := "takenBy", desc := "(II)I" } : Jvm.MethodName)) ∈ tblG := tblG_at 716 (by decide +kernel) (by decide +kernel)
theorem w717 : (Cond.instanceMethod ({ cls := "ButlerRemembers$Household", name := "takenBy", desc := "(II)I" } : Jvm.MethodName)) ∈ tblG := tblG_at 717 (by decide +kernel) (by decide +kernel)
theorem w718 : (Cond.selects "ButlerRemembers$Household" ({ cls := "ButlerRemembers$Household", name := "takenBy", desc := "(II)I" } : Jvm.MethodName) ({ cls := "ButlerRemembers$Household", name := "takenBy", desc := "(II)I" } : Jvm.MethodName)) ∈ tblG := tblG_at 718 (by decide +kernel) (by decide +kernel)
theorem w719 : (Cond.code ({ cls := "ButlerRemembers$Household", name := "takenBy", desc := "(II)I" } : Jvm.MethodName) prog_8_method_13_code (5 : Nat) (Option.some Jvm.ClassFile.FieldType.int)) ∈ tblG := tblG_at 719 (by decide +kernel) (by decide +kernel)
theorem mX11_352 : zKV RX11 352 6 yX6_takenBy cX6_takenBy 5 (some .int) 2 := ⟨⟨_, _, rfl⟩, w716, w717, w718, w70, w719, by decide, by decide, by decide, by decide +kernel⟩
theorem w730 : (Cond.methodLink "ButlerRemembers" (355 : Nat) ({ cls := "java/lang/Math", name := "max", desc := "(II)I" } : Jvm.MethodName)) ∈ tblG := tblG_at 730 (by decide +kernel) (by decide +kernel)
theorem mX11_355 : zKS RX11 355 yJ9_max_7cf53 cJ9_max_7cf53 2 (some .int) 2 := ⟨w730, w638, w83, w639, by decide, by decide, by decide, by decide +kernel⟩
theorem w1107 : (Cond.methodLink "ButlerRemembersModel" (72 : Nat) ({ cls := "ButlerRemembersModel", name := "move", desc := "([I[I)V" } : Jvm.MethodName)) ∈ tblG := tblG_at 1107 (by decide +kernel) (by decide +kernel)
theorem w1108 : (Cond.static ({ cls := "ButlerRemembersModel", name := "move", desc := "([I[I)V" } : Jvm.MethodName)) ∈ tblG := tblG_at 1108 (by decide +kernel) (by decide +kernel)
theorem w1109 : (Cond.code ({ cls := "ButlerRemembersModel", name := "move", desc := "([I[I)V" } : Jvm.MethodName) prog_14_method_3_code (3 : Nat) (Option.none : Option Jvm.ClassFile.FieldType)) ∈ tblG := tblG_at 1109 (by decide +kernel) (by decide +kernel)
theorem mX12_72 : zKS RX12 72 yX12_move cX12_move 3 none 2 := ⟨w1107, w1108, w81, w1109, by decide, by decide, by decide, by decide +kernel⟩
theorem w1118 : (Cond.methodLink "ButlerRemembersModel" (76 : Nat) ({ cls := "ButlerRemembersModel", name := "isIn", desc := "(III)Z" } : Jvm.MethodName)) ∈ tblG := tblG_at 1118 (by decide +kernel) (by decide +kernel)
theorem w1119 : (Cond.static ({ cls := "ButlerRemembersModel", name := "isIn", desc := "(III)Z" } : Jvm.MethodName)) ∈ tblG := tblG_at 1119 (by decide +kernel) (by decide +kernel)
theorem w1120 : (Cond.code ({ cls := "ButlerRemembersModel", name := "isIn", desc := "(III)Z" } : Jvm.MethodName) prog_14_method_2_code (3 : Nat) (Option.some Jvm.ClassFile.FieldType.boolean)) ∈ tblG := tblG_at 1120 (by decide +kernel) (by decide +kernel)
theorem mX12_76 : zKS RX12 76 yX12_isIn cX12_isIn 3 (some .boolean) 3 := ⟨w1118, w1119, w81, w1120, by decide, by decide, by decide, by decide +kernel⟩
theorem w1125 : (Cond.methodLink "ButlerRemembersModel" (80 : Nat) ({ cls := "ButlerRemembersModel", name := "isMaster", desc := "(I)Z" } : Jvm.MethodName)) ∈ tblG := tblG_at 1125 (by decide +kernel) (by decide +kernel)
theorem w1127 : (Cond.instanceMethod ({ cls := "ButlerRemembersModel", name := "isMaster", desc := "(I)Z" } : Jvm.MethodName)) ∈ tblG := tblG_at 1127 (by decide +kernel) (by decide +kernel)
theorem w28 : Cond.selects "ButlerRemembersModel" ⟨"ButlerRemembersModel", "isMaster", "(I)Z"⟩ ⟨"ButlerRemembersModel", "isMaster", "(I)Z"⟩ ∈ tblG := tblG_at 28 (by decide +kernel) (by decide +kernel)
theorem w1128 : (Cond.code ({ cls := "ButlerRemembersModel", name := "isMaster", desc := "(I)Z" } : Jvm.MethodName) prog_14_method_6_code (2 : Nat) (Option.some Jvm.ClassFile.FieldType.boolean)) ∈ tblG := tblG_at 1128 (by decide +kernel) (by decide +kernel)
theorem mX12_80 : zKV RX12 80 12 yX12_isMaster cX12_isMaster 2 (some .boolean) 1 := ⟨⟨_, _, rfl⟩, w1125, w1127, w28, w81, w1128, by decide, by decide, by decide, by decide +kernel⟩
theorem w1129 : (Cond.methodLink "ButlerRemembersModel" (84 : Nat) ({ cls := "ButlerRemembersModel", name := "blank", desc := "(I)I" } : Jvm.MethodName)) ∈ tblG := tblG_at 1129 (by decide +kernel) (by decide +kernel)
theorem w1131 : (Cond.instanceMethod ({ cls := "ButlerRemembersModel", name := "blank", desc := "(I)I" } : Jvm.MethodName)) ∈ tblG := tblG_at 1131 (by decide +kernel) (by decide +kernel)
theorem w29 : Cond.selects "ButlerRemembersModel" ⟨"ButlerRemembersModel", "blank", "(I)I"⟩ ⟨"ButlerRemembersModel", "blank", "(I)I"⟩ ∈ tblG := tblG_at 29 (by decide +kernel) (by decide +kernel)
theorem w1132 : (Cond.code ({ cls := "ButlerRemembersModel", name := "blank", desc := "(I)I" } : Jvm.MethodName) prog_14_method_42_code (4 : Nat) (Option.some Jvm.ClassFile.FieldType.int)) ∈ tblG := tblG_at 1132 (by decide +kernel) (by decide +kernel)
theorem mX12_84 : zKV RX12 84 12 yX12_blank cX12_blank 4 (some .int) 1 := ⟨⟨_, _, rfl⟩, w1129, w1131, w29, w81, w1132, by decide, by decide, by decide, by decide +kernel⟩
theorem w1201 : (Cond.methodLink "ButlerRemembersModel" (88 : Nat) ({ cls := "ButlerRemembersModel", name := "keptBy", desc := "(II)I" } : Jvm.MethodName)) ∈ tblG := tblG_at 1201 (by decide +kernel) (by decide +kernel)
theorem w1203 : (Cond.instanceMethod ({ cls := "ButlerRemembersModel", name := "keptBy", desc := "(II)I" } : Jvm.MethodName)) ∈ tblG := tblG_at 1203 (by decide +kernel) (by decide +kernel)
theorem w47 : Cond.selects "ButlerRemembersModel" ⟨"ButlerRemembersModel", "keptBy", "(II)I"⟩ ⟨"ButlerRemembersModel", "keptBy", "(II)I"⟩ ∈ tblG := tblG_at 47 (by decide +kernel) (by decide +kernel)
theorem w1204 : (Cond.code ({ cls := "ButlerRemembersModel", name := "keptBy", desc := "(II)I" } : Jvm.MethodName) prog_14_method_41_code (4 : Nat) (Option.some Jvm.ClassFile.FieldType.int)) ∈ tblG := tblG_at 1204 (by decide +kernel) (by decide +kernel)
theorem mX12_88 : zKV RX12 88 12 yX12_keptBy cX12_keptBy 4 (some .int) 2 := ⟨⟨_, _, rfl⟩, w1201, w1203, w47, w81, w1204, by decide, by decide, by decide, by decide +kernel⟩
theorem w1209 : (Cond.methodLink "ButlerRemembersModel" (92 : Nat) ({ cls := "ButlerRemembersModel", name := "isFact", desc := "(I)Z" } : Jvm.MethodName)) ∈ tblG := tblG_at 1209 (by decide +kernel) (by decide +kernel)
theorem w1210 : (Cond.static ({ cls := "ButlerRemembersModel", name := "isFact", desc := "(I)Z" } : Jvm.MethodName)) ∈ tblG := tblG_at 1210 (by decide +kernel) (by decide +kernel)
theorem w1211 : (Cond.code ({ cls := "ButlerRemembersModel", name := "isFact", desc := "(I)Z" } : Jvm.MethodName) prog_14_method_7_code (1 : Nat) (Option.some Jvm.ClassFile.FieldType.boolean)) ∈ tblG := tblG_at 1211 (by decide +kernel) (by decide +kernel)
theorem mX12_92 : zKS RX12 92 yX12_isFact cX12_isFact 1 (some .boolean) 1 := ⟨w1209, w1210, w81, w1211, by decide, by decide, by decide, by decide +kernel⟩
theorem w1145 : (Cond.methodLink "ButlerRemembersModel" (95 : Nat) ({ cls := "ButlerRemembersModel", name := "gripOn", desc := "(III)I" } : Jvm.MethodName)) ∈ tblG := tblG_at 1145 (by decide +kernel) (by decide +kernel)
theorem w1147 : (Cond.instanceMethod ({ cls := "ButlerRemembersModel", name := "gripOn", desc := "(III)I" } : Jvm.MethodName)) ∈ tblG := tblG_at 1147 (by decide +kernel) (by decide +kernel)
theorem w33 : Cond.selects "ButlerRemembersModel" ⟨"ButlerRemembersModel", "gripOn", "(III)I"⟩ ⟨"ButlerRemembersModel", "gripOn", "(III)I"⟩ ∈ tblG := tblG_at 33 (by decide +kernel) (by decide +kernel)
theorem w1148 : (Cond.code ({ cls := "ButlerRemembersModel", name := "gripOn", desc := "(III)I" } : Jvm.MethodName) prog_14_method_37_code (6 : Nat) (Option.some Jvm.ClassFile.FieldType.int)) ∈ tblG := tblG_at 1148 (by decide +kernel) (by decide +kernel)
theorem mX12_95 : zKV RX12 95 12 yX12_gripOn cX12_gripOn 6 (some .int) 3 := ⟨⟨_, _, rfl⟩, w1145, w1147, w33, w81, w1148, by decide, by decide, by decide, by decide +kernel⟩
theorem w1133 : (Cond.methodLink "ButlerRemembersModel" (99 : Nat) ({ cls := "ButlerRemembersModel", name := "mindOf", desc := "(I)I" } : Jvm.MethodName)) ∈ tblG := tblG_at 1133 (by decide +kernel) (by decide +kernel)
theorem w1135 : (Cond.instanceMethod ({ cls := "ButlerRemembersModel", name := "mindOf", desc := "(I)I" } : Jvm.MethodName)) ∈ tblG := tblG_at 1135 (by decide +kernel) (by decide +kernel)
theorem w30 : Cond.selects "ButlerRemembersModel" ⟨"ButlerRemembersModel", "mindOf", "(I)I"⟩ ⟨"ButlerRemembersModel", "mindOf", "(I)I"⟩ ∈ tblG := tblG_at 30 (by decide +kernel) (by decide +kernel)
theorem w1136 : (Cond.code ({ cls := "ButlerRemembersModel", name := "mindOf", desc := "(I)I" } : Jvm.MethodName) prog_14_method_11_code (2 : Nat) (Option.some Jvm.ClassFile.FieldType.int)) ∈ tblG := tblG_at 1136 (by decide +kernel) (by decide +kernel)
theorem mX12_99 : zKV RX12 99 12 yX12_mindOf cX12_mindOf 2 (some .int) 1 := ⟨⟨_, _, rfl⟩, w1133, w1135, w30, w81, w1136, by decide, by decide, by decide, by decide +kernel⟩
theorem w1220 : (Cond.methodLink "ButlerRemembersModel" (102 : Nat) ({ cls := "ButlerRemembersModel", name := "isSet", desc := "(I)Z" } : Jvm.MethodName)) ∈ tblG := tblG_at 1220 (by decide +kernel) (by decide +kernel)
theorem w1221 : (Cond.static ({ cls := "ButlerRemembersModel", name := "isSet", desc := "(I)Z" } : Jvm.MethodName)) ∈ tblG := tblG_at 1221 (by decide +kernel) (by decide +kernel)
theorem w1222 : (Cond.code ({ cls := "ButlerRemembersModel", name := "isSet", desc := "(I)Z" } : Jvm.MethodName) prog_14_method_8_code (1 : Nat) (Option.some Jvm.ClassFile.FieldType.boolean)) ∈ tblG := tblG_at 1222 (by decide +kernel) (by decide +kernel)
theorem mX12_102 : zKS RX12 102 yX12_isSet cX12_isSet 1 (some .boolean) 1 := ⟨w1220, w1221, w81, w1222, by decide, by decide, by decide, by decide +kernel⟩
theorem w1235 : (Cond.methodLink "ButlerRemembersModel" (105 : Nat) ({ cls := "ButlerRemembersModel", name := "isFootman", desc := "(I)Z" } : Jvm.MethodName)) ∈ tblG := tblG_at 1235 (by decide +kernel) (by decide +kernel)
theorem w1237 : (Cond.instanceMethod ({ cls := "ButlerRemembersModel", name := "isFootman", desc := "(I)Z" } : Jvm.MethodName)) ∈ tblG := tblG_at 1237 (by decide +kernel) (by decide +kernel)
theorem w48 : Cond.selects "ButlerRemembersModel" ⟨"ButlerRemembersModel", "isFootman", "(I)Z"⟩ ⟨"ButlerRemembersModel", "isFootman", "(I)Z"⟩ ∈ tblG := tblG_at 48 (by decide +kernel) (by decide +kernel)
theorem w1238 : (Cond.code ({ cls := "ButlerRemembersModel", name := "isFootman", desc := "(I)Z" } : Jvm.MethodName) prog_14_method_20_code (2 : Nat) (Option.some Jvm.ClassFile.FieldType.boolean)) ∈ tblG := tblG_at 1238 (by decide +kernel) (by decide +kernel)
theorem mX12_105 : zKV RX12 105 12 yX12_isFootman cX12_isFootman 2 (some .boolean) 1 := ⟨⟨_, _, rfl⟩, w1235, w1237, w48, w81, w1238, by decide, by decide, by decide, by decide +kernel⟩
theorem w1153 : (Cond.methodLink "ButlerRemembersModel" (108 : Nat) ({ cls := "ButlerRemembersModel", name := "kind", desc := "(I)I" } : Jvm.MethodName)) ∈ tblG := tblG_at 1153 (by decide +kernel) (by decide +kernel)
theorem w1155 : (Cond.instanceMethod ({ cls := "ButlerRemembersModel", name := "kind", desc := "(I)I" } : Jvm.MethodName)) ∈ tblG := tblG_at 1155 (by decide +kernel) (by decide +kernel)
theorem w35 : Cond.selects "ButlerRemembersModel" ⟨"ButlerRemembersModel", "kind", "(I)I"⟩ ⟨"ButlerRemembersModel", "kind", "(I)I"⟩ ∈ tblG := tblG_at 35 (by decide +kernel) (by decide +kernel)
theorem w1156 : (Cond.code ({ cls := "ButlerRemembersModel", name := "kind", desc := "(I)I" } : Jvm.MethodName) prog_14_method_9_code (2 : Nat) (Option.some Jvm.ClassFile.FieldType.int)) ∈ tblG := tblG_at 1156 (by decide +kernel) (by decide +kernel)
theorem mX12_108 : zKV RX12 108 12 yX12_kind cX12_kind 2 (some .int) 1 := ⟨⟨_, _, rfl⟩, w1153, w1155, w35, w81, w1156, by decide, by decide, by decide, by decide +kernel⟩
theorem w1169 : (Cond.methodLink "ButlerRemembersModel" (124 : Nat) ({ cls := "ButlerRemembersModel", name := "isAt", desc := "(I)Z" } : Jvm.MethodName)) ∈ tblG := tblG_at 1169 (by decide +kernel) (by decide +kernel)
theorem w1171 : (Cond.instanceMethod ({ cls := "ButlerRemembersModel", name := "isAt", desc := "(I)Z" } : Jvm.MethodName)) ∈ tblG := tblG_at 1171 (by decide +kernel) (by decide +kernel)
theorem w39 : Cond.selects "ButlerRemembersModel" ⟨"ButlerRemembersModel", "isAt", "(I)Z"⟩ ⟨"ButlerRemembersModel", "isAt", "(I)Z"⟩ ∈ tblG := tblG_at 39 (by decide +kernel) (by decide +kernel)
theorem w1172 : (Cond.code ({ cls := "ButlerRemembersModel", name := "isAt", desc := "(I)Z" } : Jvm.MethodName) prog_14_method_25_code (2 : Nat) (Option.some Jvm.ClassFile.FieldType.boolean)) ∈ tblG := tblG_at 1172 (by decide +kernel) (by decide +kernel)
theorem mX12_124 : zKV RX12 124 12 yX12_isAt cX12_isAt 2 (some .boolean) 1 := ⟨⟨_, _, rfl⟩, w1169, w1171, w39, w81, w1172, by decide, by decide, by decide, by decide +kernel⟩
theorem w1181 : (Cond.methodLink "ButlerRemembersModel" (127 : Nat) ({ cls := "ButlerRemembersModel", name := "isDigit", desc := "()Z" } : Jvm.MethodName)) ∈ tblG := tblG_at 1181 (by decide +kernel) (by decide +kernel)
theorem w1183 : (Cond.instanceMethod ({ cls := "ButlerRemembersModel", name := "isDigit", desc := "()Z" } : Jvm.MethodName)) ∈ tblG := tblG_at 1183 (by decide +kernel) (by decide +kernel)
theorem w42 : Cond.selects "ButlerRemembersModel" ⟨"ButlerRemembersModel", "isDigit", "()Z"⟩ ⟨"ButlerRemembersModel", "isDigit", "()Z"⟩ ∈ tblG := tblG_at 42 (by decide +kernel) (by decide +kernel)
theorem w1184 : (Cond.code ({ cls := "ButlerRemembersModel", name := "isDigit", desc := "()Z" } : Jvm.MethodName) prog_14_method_27_code (1 : Nat) (Option.some Jvm.ClassFile.FieldType.boolean)) ∈ tblG := tblG_at 1184 (by decide +kernel) (by decide +kernel)
theorem mX12_127 : zKV RX12 127 12 yX12_isDigit cX12_isDigit 1 (some .boolean) 0 := ⟨⟨_, _, rfl⟩, w1181, w1183, w42, w81, w1184, by decide, by decide, by decide, by decide +kernel⟩
theorem w1173 : (Cond.methodLink "ButlerRemembersModel" (131 : Nat) ({ cls := "ButlerRemembersModel", name := "takes", desc := "(I)V" } : Jvm.MethodName)) ∈ tblG := tblG_at 1173 (by decide +kernel) (by decide +kernel)
theorem w1175 : (Cond.instanceMethod ({ cls := "ButlerRemembersModel", name := "takes", desc := "(I)V" } : Jvm.MethodName)) ∈ tblG := tblG_at 1175 (by decide +kernel) (by decide +kernel)
theorem w40 : Cond.selects "ButlerRemembersModel" ⟨"ButlerRemembersModel", "takes", "(I)V"⟩ ⟨"ButlerRemembersModel", "takes", "(I)V"⟩ ∈ tblG := tblG_at 40 (by decide +kernel) (by decide +kernel)
theorem w1176 : (Cond.code ({ cls := "ButlerRemembersModel", name := "takes", desc := "(I)V" } : Jvm.MethodName) prog_14_method_26_code (2 : Nat) (Option.none : Option Jvm.ClassFile.FieldType)) ∈ tblG := tblG_at 1176 (by decide +kernel) (by decide +kernel)
theorem mX12_131 : zKV RX12 131 12 yX12_takes cX12_takes 2 none 1 := ⟨⟨_, _, rfl⟩, w1173, w1175, w40, w81, w1176, by decide, by decide, by decide, by decide +kernel⟩
theorem w1177 : (Cond.methodLink "ButlerRemembersModel" (135 : Nat) ({ cls := "ButlerRemembersModel", name := "number", desc := "()I" } : Jvm.MethodName)) ∈ tblG := tblG_at 1177 (by decide +kernel) (by decide +kernel)
theorem w1179 : (Cond.instanceMethod ({ cls := "ButlerRemembersModel", name := "number", desc := "()I" } : Jvm.MethodName)) ∈ tblG := tblG_at 1179 (by decide +kernel) (by decide +kernel)
theorem w41 : Cond.selects "ButlerRemembersModel" ⟨"ButlerRemembersModel", "number", "()I"⟩ ⟨"ButlerRemembersModel", "number", "()I"⟩ ∈ tblG := tblG_at 41 (by decide +kernel) (by decide +kernel)
theorem w1180 : (Cond.code ({ cls := "ButlerRemembersModel", name := "number", desc := "()I" } : Jvm.MethodName) prog_14_method_28_code (2 : Nat) (Option.some Jvm.ClassFile.FieldType.int)) ∈ tblG := tblG_at 1180 (by decide +kernel) (by decide +kernel)
theorem mX12_135 : zKV RX12 135 12 yX12_number cX12_number 2 (some .int) 0 := ⟨⟨_, _, rfl⟩, w1177, w1179, w41, w81, w1180, by decide, by decide, by decide, by decide +kernel⟩
theorem w1193 : (Cond.methodLink "ButlerRemembersModel" (142 : Nat) ({ cls := "ButlerRemembersModel", name := "factor", desc := "()Z" } : Jvm.MethodName)) ∈ tblG := tblG_at 1193 (by decide +kernel) (by decide +kernel)
theorem w1195 : (Cond.instanceMethod ({ cls := "ButlerRemembersModel", name := "factor", desc := "()Z" } : Jvm.MethodName)) ∈ tblG := tblG_at 1195 (by decide +kernel) (by decide +kernel)
theorem w45 : Cond.selects "ButlerRemembersModel" ⟨"ButlerRemembersModel", "factor", "()Z"⟩ ⟨"ButlerRemembersModel", "factor", "()Z"⟩ ∈ tblG := tblG_at 45 (by decide +kernel) (by decide +kernel)
theorem w1196 : (Cond.code ({ cls := "ButlerRemembersModel", name := "factor", desc := "()Z" } : Jvm.MethodName) prog_14_method_30_code (2 : Nat) (Option.some Jvm.ClassFile.FieldType.boolean)) ∈ tblG := tblG_at 1196 (by decide +kernel) (by decide +kernel)
theorem mX12_142 : zKV RX12 142 12 yX12_factor cX12_factor 2 (some .boolean) 0 := ⟨⟨_, _, rfl⟩, w1193, w1195, w45, w81, w1196, by decide, by decide, by decide, by decide +kernel⟩
theorem w1185 : (Cond.methodLink "ButlerRemembersModel" (145 : Nat) ({ cls := "ButlerRemembersModel", name := "any", desc := "()Z" } : Jvm.MethodName)) ∈ tblG := tblG_at 1185 (by decide +kernel) (by decide +kernel)
theorem w1187 : (Cond.instanceMethod ({ cls := "ButlerRemembersModel", name := "any", desc := "()Z" } : Jvm.MethodName)) ∈ tblG := tblG_at 1187 (by decide +kernel) (by decide +kernel)
theorem w43 : Cond.selects "ButlerRemembersModel" ⟨"ButlerRemembersModel", "any", "()Z"⟩ ⟨"ButlerRemembersModel", "any", "()Z"⟩ ∈ tblG := tblG_at 43 (by decide +kernel) (by decide +kernel)
theorem w1188 : (Cond.code ({ cls := "ButlerRemembersModel", name := "any", desc := "()Z" } : Jvm.MethodName) prog_14_method_32_code (3 : Nat) (Option.some Jvm.ClassFile.FieldType.boolean)) ∈ tblG := tblG_at 1188 (by decide +kernel) (by decide +kernel)
theorem mX12_145 : zKV RX12 145 12 yX12_any cX12_any 3 (some .boolean) 0 := ⟨⟨_, _, rfl⟩, w1185, w1187, w43, w81, w1188, by decide, by decide, by decide, by decide +kernel⟩
theorem w1197 : (Cond.methodLink "ButlerRemembersModel" (148 : Nat) ({ cls := "ButlerRemembersModel", name := "test", desc := "()Z" } : Jvm.MethodName)) ∈ tblG := tblG_at 1197 (by decide +kernel) (by decide +kernel)
theorem w1199 : (Cond.instanceMethod ({ cls := "ButlerRemembersModel", name := "test", desc := "()Z" } : Jvm.MethodName)) ∈ tblG := tblG_at 1199 (by decide +kernel) (by decide +kernel)
theorem w46 : Cond.selects "ButlerRemembersModel" ⟨"ButlerRemembersModel", "test", "()Z"⟩ ⟨"ButlerRemembersModel", "test", "()Z"⟩ ∈ tblG := tblG_at 46 (by decide +kernel) (by decide +kernel)
theorem w1200 : (Cond.code ({ cls := "ButlerRemembersModel", name := "test", desc := "()Z" } : Jvm.MethodName) prog_14_method_29_code (4 : Nat) (Option.some Jvm.ClassFile.FieldType.boolean)) ∈ tblG := tblG_at 1200 (by decide +kernel) (by decide +kernel)
theorem mX12_148 : zKV RX12 148 12 yX12_test cX12_test 4 (some .boolean) 0 := ⟨⟨_, _, rfl⟩, w1197, w1199, w46, w81, w1200, by decide, by decide, by decide, by decide +kernel⟩
theorem w1189 : (Cond.methodLink "ButlerRemembersModel" (151 : Nat) ({ cls := "ButlerRemembersModel", name := "both", desc := "()Z" } : Jvm.MethodName)) ∈ tblG := tblG_at 1189 (by decide +kernel) (by decide +kernel)
theorem w1191 : (Cond.instanceMethod ({ cls := "ButlerRemembersModel", name := "both", desc := "()Z" } : Jvm.MethodName)) ∈ tblG := tblG_at 1191 (by decide +kernel) (by decide +kernel)
theorem w44 : Cond.selects "ButlerRemembersModel" ⟨"ButlerRemembersModel", "both", "()Z"⟩ ⟨"ButlerRemembersModel", "both", "()Z"⟩ ∈ tblG := tblG_at 44 (by decide +kernel) (by decide +kernel)
theorem w1192 : (Cond.code ({ cls := "ButlerRemembersModel", name := "both", desc := "()Z" } : Jvm.MethodName) prog_14_method_31_code (3 : Nat) (Option.some Jvm.ClassFile.FieldType.boolean)) ∈ tblG := tblG_at 1192 (by decide +kernel) (by decide +kernel)
theorem mX12_151 : zKV RX12 151 12 yX12_both cX12_both 3 (some .boolean) 0 := ⟨⟨_, _, rfl⟩, w1189, w1191, w44, w81, w1192, by decide, by decide, by decide, by decide +kernel⟩
theorem w1165 : (Cond.methodLink "ButlerRemembersModel" (160 : Nat) ({ cls := "ButlerRemembersModel", name := "clause", desc := "()V" } : Jvm.MethodName)) ∈ tblG := tblG_at 1165 (by decide +kernel) (by decide +kernel)
theorem w1167 : (Cond.instanceMethod ({ cls := "ButlerRemembersModel", name := "clause", desc := "()V" } : Jvm.MethodName)) ∈ tblG := tblG_at 1167 (by decide +kernel) (by decide +kernel)
theorem w38 : Cond.selects "ButlerRemembersModel" ⟨"ButlerRemembersModel", "clause", "()V"⟩ ⟨"ButlerRemembersModel", "clause", "()V"⟩ ∈ tblG := tblG_at 38 (by decide +kernel) (by decide +kernel)
theorem w1168 : (Cond.code ({ cls := "ButlerRemembersModel", name := "clause", desc := "()V" } : Jvm.MethodName) prog_14_method_33_code (4 : Nat) (Option.none : Option Jvm.ClassFile.FieldType)) ∈ tblG := tblG_at 1168 (by decide +kernel) (by decide +kernel)
theorem mX12_160 : zKV RX12 160 12 yX12_clause cX12_clause 4 none 0 := ⟨⟨_, _, rfl⟩, w1165, w1167, w38, w81, w1168, by decide, by decide, by decide, by decide +kernel⟩
theorem w1157 : (Cond.methodLink "ButlerRemembersModel" (163 : Nat) ({ cls := "ButlerRemembersModel", name := "v", desc := "(I)I" } : Jvm.MethodName)) ∈ tblG := tblG_at 1157 (by decide +kernel) (by decide +kernel)
theorem w1159 : (Cond.instanceMethod ({ cls := "ButlerRemembersModel", name := "v", desc := "(I)I" } : Jvm.MethodName)) ∈ tblG := tblG_at 1159 (by decide +kernel) (by decide +kernel)
theorem w36 : Cond.selects "ButlerRemembersModel" ⟨"ButlerRemembersModel", "v", "(I)I"⟩ ⟨"ButlerRemembersModel", "v", "(I)I"⟩ ∈ tblG := tblG_at 36 (by decide +kernel) (by decide +kernel)
theorem w1160 : (Cond.code ({ cls := "ButlerRemembersModel", name := "v", desc := "(I)I" } : Jvm.MethodName) prog_14_method_10_code (2 : Nat) (Option.some Jvm.ClassFile.FieldType.int)) ∈ tblG := tblG_at 1160 (by decide +kernel) (by decide +kernel)
theorem mX12_163 : zKV RX12 163 12 yX12_v cX12_v 2 (some .int) 1 := ⟨⟨_, _, rfl⟩, w1157, w1159, w36, w81, w1160, by decide, by decide, by decide, by decide +kernel⟩
theorem w1161 : (Cond.methodLink "ButlerRemembersModel" (166 : Nat) ({ cls := "ButlerRemembersModel", name := "readAll", desc := "()Z" } : Jvm.MethodName)) ∈ tblG := tblG_at 1161 (by decide +kernel) (by decide +kernel)
theorem w1163 : (Cond.instanceMethod ({ cls := "ButlerRemembersModel", name := "readAll", desc := "()Z" } : Jvm.MethodName)) ∈ tblG := tblG_at 1163 (by decide +kernel) (by decide +kernel)
theorem w37 : Cond.selects "ButlerRemembersModel" ⟨"ButlerRemembersModel", "readAll", "()Z"⟩ ⟨"ButlerRemembersModel", "readAll", "()Z"⟩ ∈ tblG := tblG_at 37 (by decide +kernel) (by decide +kernel)
theorem w1164 : (Cond.code ({ cls := "ButlerRemembersModel", name := "readAll", desc := "()Z" } : Jvm.MethodName) prog_14_method_34_code (2 : Nat) (Option.some Jvm.ClassFile.FieldType.boolean)) ∈ tblG := tblG_at 1164 (by decide +kernel) (by decide +kernel)
theorem mX12_166 : zKV RX12 166 12 yX12_readAll cX12_readAll 2 (some .boolean) 0 := ⟨⟨_, _, rfl⟩, w1161, w1163, w37, w81, w1164, by decide, by decide, by decide, by decide +kernel⟩
theorem w1149 : (Cond.methodLink "ButlerRemembersModel" (172 : Nat) ({ cls := "ButlerRemembersModel", name := "readFor", desc := "(III)V" } : Jvm.MethodName)) ∈ tblG := tblG_at 1149 (by decide +kernel) (by decide +kernel)
theorem w1151 : (Cond.instanceMethod ({ cls := "ButlerRemembersModel", name := "readFor", desc := "(III)V" } : Jvm.MethodName)) ∈ tblG := tblG_at 1151 (by decide +kernel) (by decide +kernel)
theorem w34 : Cond.selects "ButlerRemembersModel" ⟨"ButlerRemembersModel", "readFor", "(III)V"⟩ ⟨"ButlerRemembersModel", "readFor", "(III)V"⟩ ∈ tblG := tblG_at 34 (by decide +kernel) (by decide +kernel)
theorem w1152 : (Cond.code ({ cls := "ButlerRemembersModel", name := "readFor", desc := "(III)V" } : Jvm.MethodName) prog_14_method_35_code (6 : Nat) (Option.none : Option Jvm.ClassFile.FieldType)) ∈ tblG := tblG_at 1152 (by decide +kernel) (by decide +kernel)
theorem mX12_172 : zKV RX12 172 12 yX12_readFor cX12_readFor 6 none 3 := ⟨⟨_, _, rfl⟩, w1149, w1151, w34, w81, w1152, by decide, by decide, by decide, by decide +kernel⟩
theorem w1141 : (Cond.methodLink "ButlerRemembersModel" (176 : Nat) ({ cls := "ButlerRemembersModel", name := "keeps", desc := "(III)Z" } : Jvm.MethodName)) ∈ tblG := tblG_at 1141 (by decide +kernel) (by decide +kernel)
theorem w1143 : (Cond.instanceMethod ({ cls := "ButlerRemembersModel", name := "keeps", desc := "(III)Z" } : Jvm.MethodName)) ∈ tblG := tblG_at 1143 (by decide +kernel) (by decide +kernel)
theorem w32 : Cond.selects "ButlerRemembersModel" ⟨"ButlerRemembersModel", "keeps", "(III)Z"⟩ ⟨"ButlerRemembersModel", "keeps", "(III)Z"⟩ ∈ tblG := tblG_at 32 (by decide +kernel) (by decide +kernel)
theorem w1144 : (Cond.code ({ cls := "ButlerRemembersModel", name := "keeps", desc := "(III)Z" } : Jvm.MethodName) prog_14_method_38_code (4 : Nat) (Option.some Jvm.ClassFile.FieldType.boolean)) ∈ tblG := tblG_at 1144 (by decide +kernel) (by decide +kernel)
theorem mX12_176 : zKV RX12 176 12 yX12_keeps cX12_keeps 4 (some .boolean) 3 := ⟨⟨_, _, rfl⟩, w1141, w1143, w32, w81, w1144, by decide, by decide, by decide, by decide +kernel⟩
theorem w1137 : (Cond.methodLink "ButlerRemembersModel" (179 : Nat) ({ cls := "ButlerRemembersModel", name := "stays", desc := "(III)I" } : Jvm.MethodName)) ∈ tblG := tblG_at 1137 (by decide +kernel) (by decide +kernel)
theorem w1139 : (Cond.instanceMethod ({ cls := "ButlerRemembersModel", name := "stays", desc := "(III)I" } : Jvm.MethodName)) ∈ tblG := tblG_at 1139 (by decide +kernel) (by decide +kernel)
theorem w31 : Cond.selects "ButlerRemembersModel" ⟨"ButlerRemembersModel", "stays", "(III)I"⟩ ⟨"ButlerRemembersModel", "stays", "(III)I"⟩ ∈ tblG := tblG_at 31 (by decide +kernel) (by decide +kernel)
theorem w1140 : (Cond.code ({ cls := "ButlerRemembersModel", name := "stays", desc := "(III)I" } : Jvm.MethodName) prog_14_method_39_code (6 : Nat) (Option.some Jvm.ClassFile.FieldType.int)) ∈ tblG := tblG_at 1140 (by decide +kernel) (by decide +kernel)
theorem mX12_179 : zKV RX12 179 12 yX12_stays cX12_stays 6 (some .int) 3 := ⟨⟨_, _, rfl⟩, w1137, w1139, w31, w81, w1140, by decide, by decide, by decide, by decide +kernel⟩
theorem w1279 : (Cond.methodLink "ButlerRemembersModel" (182 : Nat) ({ cls := "ButlerRemembersModel", name := "takes", desc := "(II)I" } : Jvm.MethodName)) ∈ tblG := tblG_at 1279 (by decide +kernel) (by decide +kernel)
theorem w1281 : (Cond.instanceMethod ({ cls := "ButlerRemembersModel", name := "takes", desc := "(II)I" } : Jvm.MethodName)) ∈ tblG := tblG_at 1281 (by decide +kernel) (by decide +kernel)
theorem w54 : Cond.selects "ButlerRemembersModel" ⟨"ButlerRemembersModel", "takes", "(II)I"⟩ ⟨"ButlerRemembersModel", "takes", "(II)I"⟩ ∈ tblG := tblG_at 54 (by decide +kernel) (by decide +kernel)
theorem w1282 : (Cond.code ({ cls := "ButlerRemembersModel", name := "takes", desc := "(II)I" } : Jvm.MethodName) prog_14_method_43_code (3 : Nat) (Option.some Jvm.ClassFile.FieldType.int)) ∈ tblG := tblG_at 1282 (by decide +kernel) (by decide +kernel)
theorem mX12_182 : zKV RX12 182 12 yX12_takes_ cX12_takes_ 3 (some .int) 2 := ⟨⟨_, _, rfl⟩, w1279, w1281, w54, w81, w1282, by decide, by decide, by decide, by decide +kernel⟩
theorem w1291 : (Cond.methodLink "ButlerRemembersModel" (184 : Nat) ({ cls := "ButlerRemembersModel", name := "many", desc := "(I)I" } : Jvm.MethodName)) ∈ tblG := tblG_at 1291 (by decide +kernel) (by decide +kernel)
theorem w1292 : (Cond.static ({ cls := "ButlerRemembersModel", name := "many", desc := "(I)I" } : Jvm.MethodName)) ∈ tblG := tblG_at 1292 (by decide +kernel) (by decide +kernel)
theorem w1293 : (Cond.code ({ cls := "ButlerRemembersModel", name := "many", desc := "(I)I" } : Jvm.MethodName) prog_14_method_12_code (3 : Nat) (Option.some Jvm.ClassFile.FieldType.int)) ∈ tblG := tblG_at 1293 (by decide +kernel) (by decide +kernel)
theorem mX12_184 : zKS RX12 184 yX12_many cX12_many 3 (some .int) 1 := ⟨w1291, w1292, w81, w1293, by decide, by decide, by decide, by decide +kernel⟩
theorem w1287 : (Cond.methodLink "ButlerRemembersModel" (187 : Nat) ({ cls := "ButlerRemembersModel", name := "tellFor", desc := "(I)I" } : Jvm.MethodName)) ∈ tblG := tblG_at 1287 (by decide +kernel) (by decide +kernel)
theorem w1289 : (Cond.instanceMethod ({ cls := "ButlerRemembersModel", name := "tellFor", desc := "(I)I" } : Jvm.MethodName)) ∈ tblG := tblG_at 1289 (by decide +kernel) (by decide +kernel)
theorem w56 : Cond.selects "ButlerRemembersModel" ⟨"ButlerRemembersModel", "tellFor", "(I)I"⟩ ⟨"ButlerRemembersModel", "tellFor", "(I)I"⟩ ∈ tblG := tblG_at 56 (by decide +kernel) (by decide +kernel)
theorem w1290 : (Cond.code ({ cls := "ButlerRemembersModel", name := "tellFor", desc := "(I)I" } : Jvm.MethodName) prog_14_method_46_code (5 : Nat) (Option.some Jvm.ClassFile.FieldType.int)) ∈ tblG := tblG_at 1290 (by decide +kernel) (by decide +kernel)
theorem mX12_187 : zKV RX12 187 12 yX12_tellFor cX12_tellFor 5 (some .int) 1 := ⟨⟨_, _, rfl⟩, w1287, w1289, w56, w81, w1290, by decide, by decide, by decide, by decide +kernel⟩
theorem w1298 : (Cond.methodLink "ButlerRemembersModel" (190 : Nat) ({ cls := "java/lang/Math", name := "max", desc := "(II)I" } : Jvm.MethodName)) ∈ tblG := tblG_at 1298 (by decide +kernel) (by decide +kernel)
theorem mX12_190 : zKS RX12 190 yJ9_max_7cf53 cJ9_max_7cf53 2 (some .int) 2 := ⟨w1298, w638, w83, w639, by decide, by decide, by decide, by decide +kernel⟩
theorem w1299 : (Cond.methodLink "ButlerRemembersModel" (195 : Nat) ({ cls := "ButlerRemembersModel", name := "night", desc := "()V" } : Jvm.MethodName)) ∈ tblG := tblG_at 1299 (by decide +kernel) (by decide +kernel)
theorem w1301 : (Cond.instanceMethod ({ cls := "ButlerRemembersModel", name := "night", desc := "()V" } : Jvm.MethodName)) ∈ tblG := tblG_at 1301 (by decide +kernel) (by decide +kernel)
theorem w58 : Cond.selects "ButlerRemembersModel" ⟨"ButlerRemembersModel", "night", "()V"⟩ ⟨"ButlerRemembersModel", "night", "()V"⟩ ∈ tblG := tblG_at 58 (by decide +kernel) (by decide +kernel)
theorem w1302 : (Cond.code ({ cls := "ButlerRemembersModel", name := "night", desc := "()V" } : Jvm.MethodName) prog_14_method_40_code (2 : Nat) (Option.none : Option Jvm.ClassFile.FieldType)) ∈ tblG := tblG_at 1302 (by decide +kernel) (by decide +kernel)
theorem mX12_195 : zKV RX12 195 12 yX12_night cX12_night 2 none 0 := ⟨⟨_, _, rfl⟩, w1299, w1301, w58, w81, w1302, by decide, by decide, by decide, by decide +kernel⟩
theorem w1263 : (Cond.methodLink "ButlerRemembersModel" (198 : Nat) ({ cls := "ButlerRemembersModel", name := "isOut", desc := "(I)Z" } : Jvm.MethodName)) ∈ tblG := tblG_at 1263 (by decide +kernel) (by decide +kernel)
theorem w1265 : (Cond.instanceMethod ({ cls := "ButlerRemembersModel", name := "isOut", desc := "(I)Z" } : Jvm.MethodName)) ∈ tblG := tblG_at 1265 (by decide +kernel) (by decide +kernel)
theorem w51 : Cond.selects "ButlerRemembersModel" ⟨"ButlerRemembersModel", "isOut", "(I)Z"⟩ ⟨"ButlerRemembersModel", "isOut", "(I)Z"⟩ ∈ tblG := tblG_at 51 (by decide +kernel) (by decide +kernel)
theorem w1266 : (Cond.code ({ cls := "ButlerRemembersModel", name := "isOut", desc := "(I)Z" } : Jvm.MethodName) prog_14_method_21_code (2 : Nat) (Option.some Jvm.ClassFile.FieldType.boolean)) ∈ tblG := tblG_at 1266 (by decide +kernel) (by decide +kernel)
theorem mX12_198 : zKV RX12 198 12 yX12_isOut cX12_isOut 2 (some .boolean) 1 := ⟨⟨_, _, rfl⟩, w1263, w1265, w51, w81, w1266, by decide, by decide, by decide, by decide +kernel⟩
theorem w1259 : (Cond.methodLink "ButlerRemembersModel" (201 : Nat) ({ cls := "ButlerRemembersModel", name := "held", desc := "(I)I" } : Jvm.MethodName)) ∈ tblG := tblG_at 1259 (by decide +kernel) (by decide +kernel)
theorem w1261 : (Cond.instanceMethod ({ cls := "ButlerRemembersModel", name := "held", desc := "(I)I" } : Jvm.MethodName)) ∈ tblG := tblG_at 1261 (by decide +kernel) (by decide +kernel)
theorem w50 : Cond.selects "ButlerRemembersModel" ⟨"ButlerRemembersModel", "held", "(I)I"⟩ ⟨"ButlerRemembersModel", "held", "(I)I"⟩ ∈ tblG := tblG_at 50 (by decide +kernel) (by decide +kernel)
theorem w1262 : (Cond.code ({ cls := "ButlerRemembersModel", name := "held", desc := "(I)I" } : Jvm.MethodName) prog_14_method_50_code (4 : Nat) (Option.some Jvm.ClassFile.FieldType.int)) ∈ tblG := tblG_at 1262 (by decide +kernel) (by decide +kernel)
theorem mX12_201 : zKV RX12 201 12 yX12_held cX12_held 4 (some .int) 1 := ⟨⟨_, _, rfl⟩, w1259, w1261, w50, w81, w1262, by decide, by decide, by decide, by decide +kernel⟩
theorem w1255 : (Cond.methodLink "ButlerRemembersModel" (204 : Nat) ({ cls := "ButlerRemembersModel", name := "lostWith", desc := "(I)I" } : Jvm.MethodName)) ∈ tblG := tblG_at 1255 (by decide +kernel) (by decide +kernel)
theorem w1257 : (Cond.instanceMethod ({ cls := "ButlerRemembersModel", name := "lostWith", desc := "(I)I" } : Jvm.MethodName)) ∈ tblG := tblG_at 1257 (by decide +kernel) (by decide +kernel)
theorem w49 : Cond.selects "ButlerRemembersModel" ⟨"ButlerRemembersModel", "lostWith", "(I)I"⟩ ⟨"ButlerRemembersModel", "lostWith", "(I)I"⟩ ∈ tblG := tblG_at 49 (by decide +kernel) (by decide +kernel)
theorem w1258 : (Cond.code ({ cls := "ButlerRemembersModel", name := "lostWith", desc := "(I)I" } : Jvm.MethodName) prog_14_method_52_code (2 : Nat) (Option.some Jvm.ClassFile.FieldType.int)) ∈ tblG := tblG_at 1258 (by decide +kernel) (by decide +kernel)
theorem mX12_204 : zKV RX12 204 12 yX12_lostWith cX12_lostWith 2 (some .int) 1 := ⟨⟨_, _, rfl⟩, w1255, w1257, w49, w81, w1258, by decide, by decide, by decide, by decide +kernel⟩
theorem w1271 : (Cond.methodLink "ButlerRemembersModel" (207 : Nat) ({ cls := "ButlerRemembersModel", name := "hoursNow", desc := "()I" } : Jvm.MethodName)) ∈ tblG := tblG_at 1271 (by decide +kernel) (by decide +kernel)
theorem w1273 : (Cond.instanceMethod ({ cls := "ButlerRemembersModel", name := "hoursNow", desc := "()I" } : Jvm.MethodName)) ∈ tblG := tblG_at 1273 (by decide +kernel) (by decide +kernel)
theorem w52 : Cond.selects "ButlerRemembersModel" ⟨"ButlerRemembersModel", "hoursNow", "()I"⟩ ⟨"ButlerRemembersModel", "hoursNow", "()I"⟩ ∈ tblG := tblG_at 52 (by decide +kernel) (by decide +kernel)
theorem w1274 : (Cond.code ({ cls := "ButlerRemembersModel", name := "hoursNow", desc := "()I" } : Jvm.MethodName) prog_14_method_49_code (1 : Nat) (Option.some Jvm.ClassFile.FieldType.int)) ∈ tblG := tblG_at 1274 (by decide +kernel) (by decide +kernel)
theorem mX12_207 : zKV RX12 207 12 yX12_hoursNow cX12_hoursNow 1 (some .int) 0 := ⟨⟨_, _, rfl⟩, w1271, w1273, w52, w81, w1274, by decide, by decide, by decide, by decide +kernel⟩
theorem w1275 : (Cond.methodLink "ButlerRemembersModel" (210 : Nat) ({ cls := "ButlerRemembersModel", name := "done", desc := "()I" } : Jvm.MethodName)) ∈ tblG := tblG_at 1275 (by decide +kernel) (by decide +kernel)
theorem w1277 : (Cond.instanceMethod ({ cls := "ButlerRemembersModel", name := "done", desc := "()I" } : Jvm.MethodName)) ∈ tblG := tblG_at 1277 (by decide +kernel) (by decide +kernel)
theorem w53 : Cond.selects "ButlerRemembersModel" ⟨"ButlerRemembersModel", "done", "()I"⟩ ⟨"ButlerRemembersModel", "done", "()I"⟩ ∈ tblG := tblG_at 53 (by decide +kernel) (by decide +kernel)
theorem w1278 : (Cond.code ({ cls := "ButlerRemembersModel", name := "done", desc := "()I" } : Jvm.MethodName) prog_14_method_44_code (3 : Nat) (Option.some Jvm.ClassFile.FieldType.int)) ∈ tblG := tblG_at 1278 (by decide +kernel) (by decide +kernel)
theorem mX12_210 : zKV RX12 210 12 yX12_done cX12_done 3 (some .int) 0 := ⟨⟨_, _, rfl⟩, w1275, w1277, w53, w81, w1278, by decide, by decide, by decide, by decide +kernel⟩
theorem w1283 : (Cond.methodLink "ButlerRemembersModel" (213 : Nat) ({ cls := "ButlerRemembersModel", name := "tellings", desc := "()I" } : Jvm.MethodName)) ∈ tblG := tblG_at 1283 (by decide +kernel) (by decide +kernel)
theorem w1285 : (Cond.instanceMethod ({ cls := "ButlerRemembersModel", name := "tellings", desc := "()I" } : Jvm.MethodName)) ∈ tblG := tblG_at 1285 (by decide +kernel) (by decide +kernel)
theorem w55 : Cond.selects "ButlerRemembersModel" ⟨"ButlerRemembersModel", "tellings", "()I"⟩ ⟨"ButlerRemembersModel", "tellings", "()I"⟩ ∈ tblG := tblG_at 55 (by decide +kernel) (by decide +kernel)
theorem w1286 : (Cond.code ({ cls := "ButlerRemembersModel", name := "tellings", desc := "()I" } : Jvm.MethodName) prog_14_method_47_code (2 : Nat) (Option.some Jvm.ClassFile.FieldType.int)) ∈ tblG := tblG_at 1286 (by decide +kernel) (by decide +kernel)
theorem mX12_213 : zKV RX12 213 12 yX12_tellings cX12_tellings 2 (some .int) 0 := ⟨⟨_, _, rfl⟩, w1283, w1285, w55, w81, w1286, by decide, by decide, by decide, by decide +kernel⟩
theorem w1294 : (Cond.methodLink "ButlerRemembersModel" (216 : Nat) ({ cls := "ButlerRemembersModel", name := "days", desc := "(Z)I" } : Jvm.MethodName)) ∈ tblG := tblG_at 1294 (by decide +kernel) (by decide +kernel)
theorem w1296 : (Cond.instanceMethod ({ cls := "ButlerRemembersModel", name := "days", desc := "(Z)I" } : Jvm.MethodName)) ∈ tblG := tblG_at 1296 (by decide +kernel) (by decide +kernel)
theorem w57 : Cond.selects "ButlerRemembersModel" ⟨"ButlerRemembersModel", "days", "(Z)I"⟩ ⟨"ButlerRemembersModel", "days", "(Z)I"⟩ ∈ tblG := tblG_at 57 (by decide +kernel) (by decide +kernel)
theorem w1297 : (Cond.code ({ cls := "ButlerRemembersModel", name := "days", desc := "(Z)I" } : Jvm.MethodName) prog_14_method_48_code (6 : Nat) (Option.some Jvm.ClassFile.FieldType.int)) ∈ tblG := tblG_at 1297 (by decide +kernel) (by decide +kernel)
theorem mX12_216 : zKV RX12 216 12 yX12_days cX12_days 6 (some .int) 1 := ⟨⟨_, _, rfl⟩, w1294, w1296, w57, w81, w1297, by decide, by decide, by decide, by decide +kernel⟩
theorem w1303 : (Cond.methodLink "ButlerRemembersModel" (220 : Nat) ({ cls := "ButlerRemembersModel", name := "crew", desc := "()I" } : Jvm.MethodName)) ∈ tblG := tblG_at 1303 (by decide +kernel) (by decide +kernel)
theorem w1305 : (Cond.instanceMethod ({ cls := "ButlerRemembersModel", name := "crew", desc := "()I" } : Jvm.MethodName)) ∈ tblG := tblG_at 1305 (by decide +kernel) (by decide +kernel)
theorem w59 : Cond.selects "ButlerRemembersModel" ⟨"ButlerRemembersModel", "crew", "()I"⟩ ⟨"ButlerRemembersModel", "crew", "()I"⟩ ∈ tblG := tblG_at 59 (by decide +kernel) (by decide +kernel)
theorem w1306 : (Cond.code ({ cls := "ButlerRemembersModel", name := "crew", desc := "()I" } : Jvm.MethodName) prog_14_method_51_code (5 : Nat) (Option.some Jvm.ClassFile.FieldType.int)) ∈ tblG := tblG_at 1306 (by decide +kernel) (by decide +kernel)
theorem mX12_220 : zKV RX12 220 12 yX12_crew cX12_crew 5 (some .int) 0 := ⟨⟨_, _, rfl⟩, w1303, w1305, w59, w81, w1306, by decide, by decide, by decide, by decide +kernel⟩
theorem w1307 : (Cond.methodLink "ButlerRemembersModel" (223 : Nat) ({ cls := "ButlerRemembersModel", name := "isSafe", desc := "()I" } : Jvm.MethodName)) ∈ tblG := tblG_at 1307 (by decide +kernel) (by decide +kernel)
theorem w1309 : (Cond.instanceMethod ({ cls := "ButlerRemembersModel", name := "isSafe", desc := "()I" } : Jvm.MethodName)) ∈ tblG := tblG_at 1309 (by decide +kernel) (by decide +kernel)
theorem w60 : Cond.selects "ButlerRemembersModel" ⟨"ButlerRemembersModel", "isSafe", "()I"⟩ ⟨"ButlerRemembersModel", "isSafe", "()I"⟩ ∈ tblG := tblG_at 60 (by decide +kernel) (by decide +kernel)
theorem w1310 : (Cond.code ({ cls := "ButlerRemembersModel", name := "isSafe", desc := "()I" } : Jvm.MethodName) prog_14_method_55_code (3 : Nat) (Option.some Jvm.ClassFile.FieldType.int)) ∈ tblG := tblG_at 1310 (by decide +kernel) (by decide +kernel)
theorem mX12_223 : zKV RX12 223 12 yX12_isSafe cX12_isSafe 3 (some .int) 0 := ⟨⟨_, _, rfl⟩, w1307, w1309, w60, w81, w1310, by decide, by decide, by decide, by decide +kernel⟩
theorem w1311 : (Cond.methodLink "ButlerRemembersModel" (226 : Nat) ({ cls := "ButlerRemembersModel", name := "outs", desc := "()I" } : Jvm.MethodName)) ∈ tblG := tblG_at 1311 (by decide +kernel) (by decide +kernel)
theorem w1313 : (Cond.instanceMethod ({ cls := "ButlerRemembersModel", name := "outs", desc := "()I" } : Jvm.MethodName)) ∈ tblG := tblG_at 1313 (by decide +kernel) (by decide +kernel)
theorem w61 : Cond.selects "ButlerRemembersModel" ⟨"ButlerRemembersModel", "outs", "()I"⟩ ⟨"ButlerRemembersModel", "outs", "()I"⟩ ∈ tblG := tblG_at 61 (by decide +kernel) (by decide +kernel)
theorem w1314 : (Cond.code ({ cls := "ButlerRemembersModel", name := "outs", desc := "()I" } : Jvm.MethodName) prog_14_method_54_code (3 : Nat) (Option.some Jvm.ClassFile.FieldType.int)) ∈ tblG := tblG_at 1314 (by decide +kernel) (by decide +kernel)
theorem mX12_226 : zKV RX12 226 12 yX12_outs cX12_outs 3 (some .int) 0 := ⟨⟨_, _, rfl⟩, w1311, w1313, w61, w81, w1314, by decide, by decide, by decide, by decide +kernel⟩
theorem w1327 : (Cond.methodLink "ButlerRemembersModel" (229 : Nat) ({ cls := "ButlerRemembersModel", name := "known", desc := "()I" } : Jvm.MethodName)) ∈ tblG := tblG_at 1327 (by decide +kernel) (by decide +kernel)
theorem w1329 : (Cond.instanceMethod ({ cls := "ButlerRemembersModel", name := "known", desc := "()I" } : Jvm.MethodName)) ∈ tblG := tblG_at 1329 (by decide +kernel) (by decide +kernel)
theorem w63 : Cond.selects "ButlerRemembersModel" ⟨"ButlerRemembersModel", "known", "()I"⟩ ⟨"ButlerRemembersModel", "known", "()I"⟩ ∈ tblG := tblG_at 63 (by decide +kernel) (by decide +kernel)
theorem w1330 : (Cond.code ({ cls := "ButlerRemembersModel", name := "known", desc := "()I" } : Jvm.MethodName) prog_14_method_45_code (3 : Nat) (Option.some Jvm.ClassFile.FieldType.int)) ∈ tblG := tblG_at 1330 (by decide +kernel) (by decide +kernel)
theorem mX12_229 : zKV RX12 229 12 yX12_known cX12_known 3 (some .int) 0 := ⟨⟨_, _, rfl⟩, w1327, w1329, w63, w81, w1330, by decide, by decide, by decide, by decide +kernel⟩
theorem w1323 : (Cond.methodLink "ButlerRemembersModel" (232 : Nat) ({ cls := "ButlerRemembersModel", name := "tells", desc := "(I)I" } : Jvm.MethodName)) ∈ tblG := tblG_at 1323 (by decide +kernel) (by decide +kernel)
theorem w1325 : (Cond.instanceMethod ({ cls := "ButlerRemembersModel", name := "tells", desc := "(I)I" } : Jvm.MethodName)) ∈ tblG := tblG_at 1325 (by decide +kernel) (by decide +kernel)
theorem w62 : Cond.selects "ButlerRemembersModel" ⟨"ButlerRemembersModel", "tells", "(I)I"⟩ ⟨"ButlerRemembersModel", "tells", "(I)I"⟩ ∈ tblG := tblG_at 62 (by decide +kernel) (by decide +kernel)
theorem w1326 : (Cond.code ({ cls := "ButlerRemembersModel", name := "tells", desc := "(I)I" } : Jvm.MethodName) prog_14_method_58_code (2 : Nat) (Option.some Jvm.ClassFile.FieldType.int)) ∈ tblG := tblG_at 1326 (by decide +kernel) (by decide +kernel)
theorem mX12_232 : zKV RX12 232 12 yX12_tells cX12_tells 2 (some .int) 1 := ⟨⟨_, _, rfl⟩, w1323, w1325, w62, w81, w1326, by decide, by decide, by decide, by decide +kernel⟩
theorem w1339 : (Cond.methodLink "ButlerRemembersModel" (235 : Nat) ({ cls := "ButlerRemembersModel", name := "isSo", desc := "(I)Z" } : Jvm.MethodName)) ∈ tblG := tblG_at 1339 (by decide +kernel) (by decide +kernel)
theorem w1341 : (Cond.instanceMethod ({ cls := "ButlerRemembersModel", name := "isSo", desc := "(I)Z" } : Jvm.MethodName)) ∈ tblG := tblG_at 1341 (by decide +kernel) (by decide +kernel)
theorem w64 : Cond.selects "ButlerRemembersModel" ⟨"ButlerRemembersModel", "isSo", "(I)Z"⟩ ⟨"ButlerRemembersModel", "isSo", "(I)Z"⟩ ∈ tblG := tblG_at 64 (by decide +kernel) (by decide +kernel)
theorem w1342 : (Cond.code ({ cls := "ButlerRemembersModel", name := "isSo", desc := "(I)Z" } : Jvm.MethodName) prog_14_method_61_code (3 : Nat) (Option.some Jvm.ClassFile.FieldType.boolean)) ∈ tblG := tblG_at 1342 (by decide +kernel) (by decide +kernel)
theorem mX12_235 : zKV RX12 235 12 yX12_isSo cX12_isSo 3 (some .boolean) 1 := ⟨⟨_, _, rfl⟩, w1339, w1341, w64, w81, w1342, by decide, by decide, by decide, by decide +kernel⟩
theorem w1356 : (Cond.methodLink "ButlerRemembersModel" (240 : Nat) ({ cls := "ButlerRemembersModel", name := "fraction", desc := "(JJI)J" } : Jvm.MethodName)) ∈ tblG := tblG_at 1356 (by decide +kernel) (by decide +kernel)
theorem w1357 : (Cond.static ({ cls := "ButlerRemembersModel", name := "fraction", desc := "(JJI)J" } : Jvm.MethodName)) ∈ tblG := tblG_at 1357 (by decide +kernel) (by decide +kernel)
theorem w1358 : (Cond.code ({ cls := "ButlerRemembersModel", name := "fraction", desc := "(JJI)J" } : Jvm.MethodName) prog_14_method_65_code (11 : Nat) (Option.some Jvm.ClassFile.FieldType.long)) ∈ tblG := tblG_at 1358 (by decide +kernel) (by decide +kernel)
theorem mX12_240 : zKS RX12 240 yX12_fraction cX12_fraction 11 (some .long) 3 := ⟨w1356, w1357, w81, w1358, by decide, by decide, by decide, by decide +kernel⟩
theorem w1363 : (Cond.methodLink "ButlerRemembersModel" (244 : Nat) ({ cls := "ButlerRemembersModel", name := "on", desc := "(II)I" } : Jvm.MethodName)) ∈ tblG := tblG_at 1363 (by decide +kernel) (by decide +kernel)
theorem mX12_244 : zKV RX12 244 12 yX12_on cX12_on 4 (some .int) 2 := ⟨⟨_, _, rfl⟩, w1363, w1320, w1321, w81, w1322, by decide, by decide, by decide, by decide +kernel⟩
theorem w1388 : (Cond.methodLink "ButlerRemembersModel" (250 : Nat) ({ cls := "ButlerRemembersModel", name := "from", desc := "(IIII)I" } : Jvm.MethodName)) ∈ tblG := tblG_at 1388 (by decide +kernel) (by decide +kernel)
theorem w1390 : (Cond.instanceMethod ({ cls := "ButlerRemembersModel", name := "from", desc := "(IIII)I" } : Jvm.MethodName)) ∈ tblG := tblG_at 1390 (by decide +kernel) (by decide +kernel)
theorem w66 : Cond.selects "ButlerRemembersModel" ⟨"ButlerRemembersModel", "from", "(IIII)I"⟩ ⟨"ButlerRemembersModel", "from", "(IIII)I"⟩ ∈ tblG := tblG_at 66 (by decide +kernel) (by decide +kernel)
theorem w1391 : (Cond.code ({ cls := "ButlerRemembersModel", name := "from", desc := "(IIII)I" } : Jvm.MethodName) prog_14_method_74_code (7 : Nat) (Option.some Jvm.ClassFile.FieldType.int)) ∈ tblG := tblG_at 1391 (by decide +kernel) (by decide +kernel)
theorem mX12_250 : zKV RX12 250 12 yX12_from cX12_from 7 (some .int) 4 := ⟨⟨_, _, rfl⟩, w1388, w1390, w66, w81, w1391, by decide, by decide, by decide, by decide +kernel⟩
theorem w1392 : (Cond.methodLink "ButlerRemembersModel" (254 : Nat) ({ cls := "ButlerRemembersModel", name := "body", desc := "(I)I" } : Jvm.MethodName)) ∈ tblG := tblG_at 1392 (by decide +kernel) (by decide +kernel)
theorem w1394 : (Cond.instanceMethod ({ cls := "ButlerRemembersModel", name := "body", desc := "(I)I" } : Jvm.MethodName)) ∈ tblG := tblG_at 1394 (by decide +kernel) (by decide +kernel)
theorem w67 : Cond.selects "ButlerRemembersModel" ⟨"ButlerRemembersModel", "body", "(I)I"⟩ ⟨"ButlerRemembersModel", "body", "(I)I"⟩ ∈ tblG := tblG_at 67 (by decide +kernel) (by decide +kernel)
theorem w1395 : (Cond.code ({ cls := "ButlerRemembersModel", name := "body", desc := "(I)I" } : Jvm.MethodName) prog_14_method_72_code (2 : Nat) (Option.some Jvm.ClassFile.FieldType.int)) ∈ tblG := tblG_at 1395 (by decide +kernel) (by decide +kernel)
theorem mX12_254 : zKV RX12 254 12 yX12_body cX12_body 2 (some .int) 1 := ⟨⟨_, _, rfl⟩, w1392, w1394, w67, w81, w1395, by decide, by decide, by decide, by decide +kernel⟩
theorem w1384 : (Cond.methodLink "ButlerRemembersModel" (257 : Nat) ({ cls := "ButlerRemembersModel", name := "all", desc := "(III)I" } : Jvm.MethodName)) ∈ tblG := tblG_at 1384 (by decide +kernel) (by decide +kernel)
theorem w1386 : (Cond.instanceMethod ({ cls := "ButlerRemembersModel", name := "all", desc := "(III)I" } : Jvm.MethodName)) ∈ tblG := tblG_at 1386 (by decide +kernel) (by decide +kernel)
theorem w65 : Cond.selects "ButlerRemembersModel" ⟨"ButlerRemembersModel", "all", "(III)I"⟩ ⟨"ButlerRemembersModel", "all", "(III)I"⟩ ∈ tblG := tblG_at 65 (by decide +kernel) (by decide +kernel)
theorem w1387 : (Cond.code ({ cls := "ButlerRemembersModel", name := "all", desc := "(III)I" } : Jvm.MethodName) prog_14_method_73_code (4 : Nat) (Option.some Jvm.ClassFile.FieldType.int)) ∈ tblG := tblG_at 1387 (by decide +kernel) (by decide +kernel)
theorem mX12_257 : zKV RX12 257 12 yX12_all cX12_all 4 (some .int) 3 := ⟨⟨_, _, rfl⟩, w1384, w1386, w65, w81, w1387, by decide, by decide, by decide, by decide +kernel⟩
theorem w1400 : (Cond.methodLink "ButlerRemembersModel" (260 : Nat) ({ cls := "java/lang/Math", name := "min", desc := "(II)I" } : Jvm.MethodName)) ∈ tblG := tblG_at 1400 (by decide +kernel) (by decide +kernel)
theorem mX12_260 : zKS RX12 260 yJ9_min_7cf53 cJ9_min_7cf53 2 (some .int) 2 := ⟨w1400, w532, w83, w533, by decide, by decide, by decide, by decide +kernel⟩
theorem w1413 : (Cond.methodLink "ButlerRemembersModel" (263 : Nat) ({ cls := "ButlerRemembersModel", name := "isTape", desc := "(I)Z" } : Jvm.MethodName)) ∈ tblG := tblG_at 1413 (by decide +kernel) (by decide +kernel)
theorem w1414 : (Cond.static ({ cls := "ButlerRemembersModel", name := "isTape", desc := "(I)Z" } : Jvm.MethodName)) ∈ tblG := tblG_at 1414 (by decide +kernel) (by decide +kernel)
theorem w1415 : (Cond.code ({ cls := "ButlerRemembersModel", name := "isTape", desc := "(I)Z" } : Jvm.MethodName) prog_14_method_79_code (1 : Nat) (Option.some Jvm.ClassFile.FieldType.boolean)) ∈ tblG := tblG_at 1415 (by decide +kernel) (by decide +kernel)
theorem mX12_263 : zKS RX12 263 yX12_isTape cX12_isTape 1 (some .boolean) 1 := ⟨w1413, w1414, w81, w1415, by decide, by decide, by decide, by decide +kernel⟩
theorem w441 : (Cond.methodLink "ButlerRemembers$Daughter" (7 : Nat) ({ cls := "ButlerRemembers$Duchess", name := "firmness", desc := "(IIIII)I" } : Jvm.MethodName)) ∈ tblG := tblG_at 441 (by decide +kernel) (by decide +kernel)
theorem w1434 : (Cond.sameMethod "ButlerRemembers$Duchess" "ButlerRemembers$Duchess" "firmness" "(IIIII)I") ∈ tblG := tblG_at 1434 (by decide +kernel) (by decide +kernel)
theorem w227 : (Cond.superclass "ButlerRemembers$Daughter" "ButlerRemembers$Duchess") ∈ tblG := tblG_at 227 (by decide +kernel) (by decide +kernel)
theorem mX2_7 : zKP RX2 7 ⟨"ButlerRemembers$Duchess", "firmness", "(IIIII)I"⟩ yX3_firmness cX3_firmness 6 (some .int) 5 := ⟨w441, w1434, w227, Or.inl rfl, rfl, w442, w73, w443, by decide, by decide, by decide +kernel⟩
theorem w951 : (Cond.methodLink "ButlerRemembers$Daughter" (11 : Nat) ({ cls := "ButlerRemembers$Turn", name := "begin", desc := "(I)V" } : Jvm.MethodName)) ∈ tblG := tblG_at 951 (by decide +kernel) (by decide +kernel)
theorem mX2_11 : zKV RX2 11 10 yX10_begin cX10_begin 2 none 1 := ⟨⟨_, _, rfl⟩, w951, w889, w890, w79, w891, by decide, by decide, by decide, by decide +kernel⟩
theorem w206 : (Cond.superclass "ButlerRemembers$Duchess" "ButlerRemembers$Master") ∈ tblG := tblG_at 206 (by decide +kernel) (by decide +kernel)
theorem w952 : (Cond.methodLink "ButlerRemembers$Daughter" (21 : Nat) ({ cls := "ButlerRemembers$Duchess", name := "tells", desc := "(LButlerRemembers$Turn;I)I" } : Jvm.MethodName)) ∈ tblG := tblG_at 952 (by decide +kernel) (by decide +kernel)
theorem w953 : (Cond.sameMethod "ButlerRemembers$Duchess" "ButlerRemembers$Master" "tells" "(LButlerRemembers$Turn;I)I") ∈ tblG := tblG_at 953 (by decide +kernel) (by decide +kernel)
theorem mX2_21 : zKP RX2 21 ⟨"ButlerRemembers$Duchess", "tells", "(LButlerRemembers$Turn;I)I"⟩ yX7_tells cX7_tells 3 (some .int) 2 := ⟨w952, w953, w227, Or.inr (w206), rfl, w936, w71, w958, by decide, by decide, by decide +kernel⟩
theorem w444 : (Cond.methodLink "ButlerRemembers$Duchess" (7 : Nat) ({ cls := "ButlerRemembers$Master", name := "firmness", desc := "(IIIII)I" } : Jvm.MethodName)) ∈ tblG := tblG_at 444 (by decide +kernel) (by decide +kernel)
theorem mX3_7 : zKP RX3 7 ⟨"ButlerRemembers$Master", "firmness", "(IIIII)I"⟩ yX7_firmness cX7_firmness 6 (some .int) 5 := ⟨w444, w426, w206, Or.inl rfl, rfl, w424, w71, w451, by decide, by decide, by decide +kernel⟩
theorem w899 : (Cond.methodLink "ButlerRemembers$Duchess" (11 : Nat) ({ cls := "ButlerRemembers$Turn", name := "begin", desc := "(I)V" } : Jvm.MethodName)) ∈ tblG := tblG_at 899 (by decide +kernel) (by decide +kernel)
theorem mX3_11 : zKV RX3 11 10 yX10_begin cX10_begin 2 none 1 := ⟨⟨_, _, rfl⟩, w899, w889, w890, w79, w891, by decide, by decide, by decide, by decide +kernel⟩
theorem w900 : (Cond.methodLink "ButlerRemembers$Duchess" (17 : Nat) ({ cls := "ButlerRemembers$Master", name := "dines", desc := "(LButlerRemembers$Turn;I)I" } : Jvm.MethodName)) ∈ tblG := tblG_at 900 (by decide +kernel) (by decide +kernel)
theorem mX3_17 : zKP RX3 17 ⟨"ButlerRemembers$Master", "dines", "(LButlerRemembers$Turn;I)I"⟩ yX7_dines cX7_dines 3 (some .int) 2 := ⟨w900, w884, w206, Or.inl rfl, rfl, w882, w71, w909, by decide, by decide, by decide +kernel⟩
theorem w433 : (Cond.methodLink "ButlerRemembers$Heir" (7 : Nat) ({ cls := "ButlerRemembers$Master", name := "firmness", desc := "(IIIII)I" } : Jvm.MethodName)) ∈ tblG := tblG_at 433 (by decide +kernel) (by decide +kernel)
theorem mX4_7 : zKP RX4 7 ⟨"ButlerRemembers$Master", "firmness", "(IIIII)I"⟩ yX7_firmness cX7_firmness 6 (some .int) 5 := ⟨w433, w426, w199, Or.inl rfl, rfl, w424, w71, w451, by decide, by decide, by decide +kernel⟩
theorem w921 : (Cond.methodLink "ButlerRemembers$Heir" (11 : Nat) ({ cls := "ButlerRemembers$Turn", name := "begin", desc := "(I)V" } : Jvm.MethodName)) ∈ tblG := tblG_at 921 (by decide +kernel) (by decide +kernel)
theorem mX4_11 : zKV RX4 11 10 yX10_begin cX10_begin 2 none 1 := ⟨⟨_, _, rfl⟩, w921, w889, w890, w79, w891, by decide, by decide, by decide, by decide +kernel⟩
theorem w922 : (Cond.methodLink "ButlerRemembers$Heir" (17 : Nat) ({ cls := "ButlerRemembers$Master", name := "nods", desc := "(LButlerRemembers$Turn;I)I" } : Jvm.MethodName)) ∈ tblG := tblG_at 922 (by decide +kernel) (by decide +kernel)
theorem mX4_17 : zKP RX4 17 ⟨"ButlerRemembers$Master", "nods", "(LButlerRemembers$Turn;I)I"⟩ yX7_nods cX7_nods 3 (some .int) 2 := ⟨w922, w914, w199, Or.inl rfl, rfl, w912, w71, w933, by decide, by decide, by decide +kernel⟩
theorem w531 : (Cond.methodLink "ButlerRemembers$House" (41 : Nat) ({ cls := "java/lang/Math", name := "min", desc := "(II)I" } : Jvm.MethodName)) ∈ tblG := tblG_at 531 (by decide +kernel) (by decide +kernel)
theorem mX5_41 : zKS RX5 41 yJ9_min_7cf53 cJ9_min_7cf53 2 (some .int) 2 := ⟨w531, w532, w83, w533, by decide, by decide, by decide, by decide +kernel⟩
theorem w534 : (Cond.methodLink "ButlerRemembers$House" (47 : Nat) ({ cls := "ButlerRemembers$House", name := "takeClause", desc := "()Z" } : Jvm.MethodName)) ∈ tblG := tblG_at 534 (by decide +kernel) (by decide +kernel)
theorem w536 : (Cond.instanceMethod ({ cls := "ButlerRemembers$House", name := "takeClause", desc := "()Z" } : Jvm.MethodName)) ∈ tblG := tblG_at 536 (by decide +kernel) (by decide +kernel)
theorem w9 : Cond.selects "ButlerRemembers$House" ⟨"ButlerRemembers$House", "takeClause", "()Z"⟩ ⟨"ButlerRemembers$House", "takeClause", "()Z"⟩ ∈ tblG := tblG_at 9 (by decide +kernel) (by decide +kernel)
theorem w537 : (Cond.code ({ cls := "ButlerRemembers$House", name := "takeClause", desc := "()Z" } : Jvm.MethodName) prog_7_method_7_code (3 : Nat) (Option.some Jvm.ClassFile.FieldType.boolean)) ∈ tblG := tblG_at 537 (by decide +kernel) (by decide +kernel)
theorem mX5_47 : zKV RX5 47 5 yX5_takeClause cX5_takeClause 3 (some .boolean) 0 := ⟨⟨_, _, rfl⟩, w534, w536, w9, w78, w537, by decide, by decide, by decide, by decide +kernel⟩
theorem w538 : (Cond.methodLink "ButlerRemembers$House" (51 : Nat) ({ cls := "ButlerRemembers$House", name := "sign", desc := "()I" } : Jvm.MethodName)) ∈ tblG := tblG_at 538 (by decide +kernel) (by decide +kernel)
theorem w540 : (Cond.instanceMethod ({ cls := "ButlerRemembers$House", name := "sign", desc := "()I" } : Jvm.MethodName)) ∈ tblG := tblG_at 540 (by decide +kernel) (by decide +kernel)
theorem w10 : Cond.selects "ButlerRemembers$House" ⟨"ButlerRemembers$House", "sign", "()I"⟩ ⟨"ButlerRemembers$House", "sign", "()I"⟩ ∈ tblG := tblG_at 10 (by decide +kernel) (by decide +kernel)
theorem w541 : (Cond.code ({ cls := "ButlerRemembers$House", name := "sign", desc := "()I" } : Jvm.MethodName) prog_7_method_4_code (1 : Nat) (Option.some Jvm.ClassFile.FieldType.int)) ∈ tblG := tblG_at 541 (by decide +kernel) (by decide +kernel)
theorem mX5_51 : zKV RX5 51 5 yX5_sign cX5_sign 1 (some .int) 0 := ⟨⟨_, _, rfl⟩, w538, w540, w10, w78, w541, by decide, by decide, by decide, by decide +kernel⟩
theorem w685 : (Cond.methodLink "ButlerRemembers$House" (55 : Nat) ({ cls := "ButlerRemembers$House", name := "settleFactTests", desc := "()V" } : Jvm.MethodName)) ∈ tblG := tblG_at 685 (by decide +kernel) (by decide +kernel)
theorem w687 : (Cond.instanceMethod ({ cls := "ButlerRemembers$House", name := "settleFactTests", desc := "()V" } : Jvm.MethodName)) ∈ tblG := tblG_at 687 (by decide +kernel) (by decide +kernel)
theorem w18 : Cond.selects "ButlerRemembers$House" ⟨"ButlerRemembers$House", "settleFactTests", "()V"⟩ ⟨"ButlerRemembers$House", "settleFactTests", "()V"⟩ ∈ tblG := tblG_at 18 (by decide +kernel) (by decide +kernel)
theorem w688 : (Cond.code ({ cls := "ButlerRemembers$House", name := "settleFactTests", desc := "()V" } : Jvm.MethodName) prog_7_method_3_code (3 : Nat) (Option.none : Option Jvm.ClassFile.FieldType)) ∈ tblG := tblG_at 688 (by decide +kernel) (by decide +kernel)
theorem mX5_55 : zKV RX5 55 5 yX5_settleFactTests cX5_settleFactTests 3 none 0 := ⟨⟨_, _, rfl⟩, w685, w687, w18, w78, w688, by decide, by decide, by decide, by decide +kernel⟩
theorem w689 : (Cond.methodLink "ButlerRemembers$House" (58 : Nat) ({ cls := "ButlerRemembers$House", name := "factsThat", desc := "(II)I" } : Jvm.MethodName)) ∈ tblG := tblG_at 689 (by decide +kernel) (by decide +kernel)
theorem w690 : (Cond.static ({ cls := "ButlerRemembers$House", name := "factsThat", desc := "(II)I" } : Jvm.MethodName)) ∈ tblG := tblG_at 690 (by decide +kernel) (by decide +kernel)
theorem w691 : (Cond.code ({ cls := "ButlerRemembers$House", name := "factsThat", desc := "(II)I" } : Jvm.MethodName) prog_7_method_15_code (4 : Nat) (Option.some Jvm.ClassFile.FieldType.int)) ∈ tblG := tblG_at 691 (by decide +kernel) (by decide +kernel)
theorem mX5_58 : zKS RX5 58 yX5_factsThat cX5_factsThat 4 (some .int) 2 := ⟨w689, w690, w78, w691, by decide, by decide, by decide, by decide +kernel⟩
theorem w543 : (Cond.methodLink "ButlerRemembers$House" (75 : Nat) ({ cls := "ButlerRemembers$House", name := "takeWord", desc := "(Ljava/lang/String;)Z" } : Jvm.MethodName)) ∈ tblG := tblG_at 543 (by decide +kernel) (by decide +kernel)
theorem w545 : (Cond.instanceMethod ({ cls := "ButlerRemembers$House", name := "takeWord", desc := "(Ljava/lang/String;)Z" } : Jvm.MethodName)) ∈ tblG := tblG_at 545 (by decide +kernel) (by decide +kernel)
theorem w11 : Cond.selects "ButlerRemembers$House" ⟨"ButlerRemembers$House", "takeWord", "(Ljava/lang/String;)Z"⟩ ⟨"ButlerRemembers$House", "takeWord", "(Ljava/lang/String;)Z"⟩ ∈ tblG := tblG_at 11 (by decide +kernel) (by decide +kernel)
theorem w546 : (Cond.code ({ cls := "ButlerRemembers$House", name := "takeWord", desc := "(Ljava/lang/String;)Z" } : Jvm.MethodName) prog_7_method_6_code (3 : Nat) (Option.some Jvm.ClassFile.FieldType.boolean)) ∈ tblG := tblG_at 546 (by decide +kernel) (by decide +kernel)
theorem mX5_75 : zKV RX5 75 5 yX5_takeWord cX5_takeWord 3 (some .boolean) 1 := ⟨⟨_, _, rfl⟩, w543, w545, w11, w78, w546, by decide, by decide, by decide, by decide +kernel⟩
theorem w595 : (Cond.methodLink "ButlerRemembers$House" (79 : Nat) ({ cls := "ButlerRemembers$House", name := "takeNumber", desc := "()Z" } : Jvm.MethodName)) ∈ tblG := tblG_at 595 (by decide +kernel) (by decide +kernel)
theorem w597 : (Cond.instanceMethod ({ cls := "ButlerRemembers$House", name := "takeNumber", desc := "()Z" } : Jvm.MethodName)) ∈ tblG := tblG_at 597 (by decide +kernel) (by decide +kernel)
theorem w12 : Cond.selects "ButlerRemembers$House" ⟨"ButlerRemembers$House", "takeNumber", "()Z"⟩ ⟨"ButlerRemembers$House", "takeNumber", "()Z"⟩ ∈ tblG := tblG_at 12 (by decide +kernel) (by decide +kernel)
theorem w598 : (Cond.code ({ cls := "ButlerRemembers$House", name := "takeNumber", desc := "()Z" } : Jvm.MethodName) prog_7_method_12_code (3 : Nat) (Option.some Jvm.ClassFile.FieldType.boolean)) ∈ tblG := tblG_at 598 (by decide +kernel) (by decide +kernel)
theorem mX5_79 : zKV RX5 79 5 yX5_takeNumber cX5_takeNumber 3 (some .boolean) 0 := ⟨⟨_, _, rfl⟩, w595, w597, w12, w78, w598, by decide, by decide, by decide, by decide +kernel⟩
theorem w602 : (Cond.methodLink "ButlerRemembers$House" (88 : Nat) ({ cls := "ButlerRemembers$House", name := "takeEither", desc := "(I)Z" } : Jvm.MethodName)) ∈ tblG := tblG_at 602 (by decide +kernel) (by decide +kernel)
theorem w604 : (Cond.instanceMethod ({ cls := "ButlerRemembers$House", name := "takeEither", desc := "(I)Z" } : Jvm.MethodName)) ∈ tblG := tblG_at 604 (by decide +kernel) (by decide +kernel)
theorem w13 : Cond.selects "ButlerRemembers$House" ⟨"ButlerRemembers$House", "takeEither", "(I)Z"⟩ ⟨"ButlerRemembers$House", "takeEither", "(I)Z"⟩ ∈ tblG := tblG_at 13 (by decide +kernel) (by decide +kernel)
theorem w605 : (Cond.code ({ cls := "ButlerRemembers$House", name := "takeEither", desc := "(I)Z" } : Jvm.MethodName) prog_7_method_8_code (4 : Nat) (Option.some Jvm.ClassFile.FieldType.boolean)) ∈ tblG := tblG_at 605 (by decide +kernel) (by decide +kernel)
theorem mX5_88 : zKV RX5 88 5 yX5_takeEither cX5_takeEither 4 (some .boolean) 1 := ⟨⟨_, _, rfl⟩, w602, w604, w13, w78, w605, by decide, by decide, by decide, by decide +kernel⟩
theorem w680 : (Cond.methodLink "ButlerRemembers$House" (92 : Nat) ({ cls := "ButlerRemembers$House", name := "addStep", desc := "(II)Z" } : Jvm.MethodName)) ∈ tblG := tblG_at 680 (by decide +kernel) (by decide +kernel)
theorem w682 : (Cond.instanceMethod ({ cls := "ButlerRemembers$House", name := "addStep", desc := "(II)Z" } : Jvm.MethodName)) ∈ tblG := tblG_at 682 (by decide +kernel) (by decide +kernel)
theorem w17 : Cond.selects "ButlerRemembers$House" ⟨"ButlerRemembers$House", "addStep", "(II)Z"⟩ ⟨"ButlerRemembers$House", "addStep", "(II)Z"⟩ ∈ tblG := tblG_at 17 (by decide +kernel) (by decide +kernel)
theorem w683 : (Cond.code ({ cls := "ButlerRemembers$House", name := "addStep", desc := "(II)Z" } : Jvm.MethodName) prog_7_method_13_code (3 : Nat) (Option.some Jvm.ClassFile.FieldType.boolean)) ∈ tblG := tblG_at 683 (by decide +kernel) (by decide +kernel)
theorem mX5_92 : zKV RX5 92 5 yX5_addStep cX5_addStep 3 (some .boolean) 2 := ⟨⟨_, _, rfl⟩, w680, w682, w17, w78, w683, by decide, by decide, by decide, by decide +kernel⟩
theorem w606 : (Cond.methodLink "ButlerRemembers$House" (96 : Nat) ({ cls := "ButlerRemembers$House", name := "takeBoth", desc := "(I)Z" } : Jvm.MethodName)) ∈ tblG := tblG_at 606 (by decide +kernel) (by decide +kernel)
theorem w608 : (Cond.instanceMethod ({ cls := "ButlerRemembers$House", name := "takeBoth", desc := "(I)Z" } : Jvm.MethodName)) ∈ tblG := tblG_at 608 (by decide +kernel) (by decide +kernel)
theorem w14 : Cond.selects "ButlerRemembers$House" ⟨"ButlerRemembers$House", "takeBoth", "(I)Z"⟩ ⟨"ButlerRemembers$House", "takeBoth", "(I)Z"⟩ ∈ tblG := tblG_at 14 (by decide +kernel) (by decide +kernel)
theorem w609 : (Cond.code ({ cls := "ButlerRemembers$House", name := "takeBoth", desc := "(I)Z" } : Jvm.MethodName) prog_7_method_9_code (4 : Nat) (Option.some Jvm.ClassFile.FieldType.boolean)) ∈ tblG := tblG_at 609 (by decide +kernel) (by decide +kernel)
theorem mX5_96 : zKV RX5 96 5 yX5_takeBoth cX5_takeBoth 4 (some .boolean) 1 := ⟨⟨_, _, rfl⟩, w606, w608, w14, w78, w609, by decide, by decide, by decide, by decide +kernel⟩
theorem w610 : (Cond.methodLink "ButlerRemembers$House" (99 : Nat) ({ cls := "ButlerRemembers$House", name := "takeOne", desc := "(I)Z" } : Jvm.MethodName)) ∈ tblG := tblG_at 610 (by decide +kernel) (by decide +kernel)
theorem w612 : (Cond.instanceMethod ({ cls := "ButlerRemembers$House", name := "takeOne", desc := "(I)Z" } : Jvm.MethodName)) ∈ tblG := tblG_at 612 (by decide +kernel) (by decide +kernel)
theorem w15 : Cond.selects "ButlerRemembers$House" ⟨"ButlerRemembers$House", "takeOne", "(I)Z"⟩ ⟨"ButlerRemembers$House", "takeOne", "(I)Z"⟩ ∈ tblG := tblG_at 15 (by decide +kernel) (by decide +kernel)
theorem w613 : (Cond.code ({ cls := "ButlerRemembers$House", name := "takeOne", desc := "(I)Z" } : Jvm.MethodName) prog_7_method_10_code (3 : Nat) (Option.some Jvm.ClassFile.FieldType.boolean)) ∈ tblG := tblG_at 613 (by decide +kernel) (by decide +kernel)
theorem mX5_99 : zKV RX5 99 5 yX5_takeOne cX5_takeOne 3 (some .boolean) 1 := ⟨⟨_, _, rfl⟩, w610, w612, w15, w78, w613, by decide, by decide, by decide, by decide +kernel⟩
theorem w614 : (Cond.methodLink "ButlerRemembers$House" (102 : Nat) ({ cls := "ButlerRemembers$House", name := "takeTest", desc := "()Z" } : Jvm.MethodName)) ∈ tblG := tblG_at 614 (by decide +kernel) (by decide +kernel)
theorem w616 : (Cond.instanceMethod ({ cls := "ButlerRemembers$House", name := "takeTest", desc := "()Z" } : Jvm.MethodName)) ∈ tblG := tblG_at 616 (by decide +kernel) (by decide +kernel)
theorem w16 : Cond.selects "ButlerRemembers$House" ⟨"ButlerRemembers$House", "takeTest", "()Z"⟩ ⟨"ButlerRemembers$House", "takeTest", "()Z"⟩ ∈ tblG := tblG_at 16 (by decide +kernel) (by decide +kernel)
theorem w617 : (Cond.code ({ cls := "ButlerRemembers$House", name := "takeTest", desc := "()Z" } : Jvm.MethodName) prog_7_method_11_code (3 : Nat) (Option.some Jvm.ClassFile.FieldType.boolean)) ∈ tblG := tblG_at 617 (by decide +kernel) (by decide +kernel)
theorem mX5_102 : zKV RX5 102 5 yX5_takeTest cX5_takeTest 3 (some .boolean) 0 := ⟨⟨_, _, rfl⟩, w614, w616, w16, w78, w617, by decide, by decide, by decide, by decide +kernel⟩
theorem w619 : (Cond.methodLink "ButlerRemembers$House" (109 : Nat) ({ cls := "ButlerRemembers$House", name := "placeIn", desc := "(Ljava/lang/String;I)I" } : Jvm.MethodName)) ∈ tblG := tblG_at 619 (by decide +kernel) (by decide +kernel)
theorem w620 : (Cond.static ({ cls := "ButlerRemembers$House", name := "placeIn", desc := "(Ljava/lang/String;I)I" } : Jvm.MethodName)) ∈ tblG := tblG_at 620 (by decide +kernel) (by decide +kernel)
theorem w621 : (Cond.code ({ cls := "ButlerRemembers$House", name := "placeIn", desc := "(Ljava/lang/String;I)I" } : Jvm.MethodName) prog_7_method_5_code (2 : Nat) (Option.some Jvm.ClassFile.FieldType.int)) ∈ tblG := tblG_at 621 (by decide +kernel) (by decide +kernel)
theorem mX5_109 : zKS RX5 109 yX5_placeIn cX5_placeIn 2 (some .int) 2 := ⟨w619, w620, w78, w621, by decide, by decide, by decide, by decide +kernel⟩
theorem w397 : (Cond.methodLink "ButlerRemembers$House" (115 : Nat) ({ cls := "ButlerRemembers$House", name := "compares", desc := "(III)Z" } : Jvm.MethodName)) ∈ tblG := tblG_at 397 (by decide +kernel) (by decide +kernel)
theorem w398 : (Cond.static ({ cls := "ButlerRemembers$House", name := "compares", desc := "(III)Z" } : Jvm.MethodName)) ∈ tblG := tblG_at 398 (by decide +kernel) (by decide +kernel)
theorem w399 : (Cond.code ({ cls := "ButlerRemembers$House", name := "compares", desc := "(III)Z" } : Jvm.MethodName) prog_7_method_14_code (3 : Nat) (Option.some Jvm.ClassFile.FieldType.boolean)) ∈ tblG := tblG_at 399 (by decide +kernel) (by decide +kernel)
theorem mX5_115 : zKS RX5 115 yX5_compares cX5_compares 3 (some .boolean) 3 := ⟨w397, w398, w78, w399, by decide, by decide, by decide, by decide +kernel⟩
theorem w391 : (Cond.methodLink "ButlerRemembers$House" (119 : Nat) ({ cls := "java/util/Arrays", name := "fill", desc := "([II)V" } : Jvm.MethodName)) ∈ tblG := tblG_at 391 (by decide +kernel) (by decide +kernel)
theorem w392 : (Cond.static ({ cls := "java/util/Arrays", name := "fill", desc := "([II)V" } : Jvm.MethodName)) ∈ tblG := tblG_at 392 (by decide +kernel) (by decide +kernel)
theorem w82 : (Cond.initialized "java/util/Arrays") ∈ tblG := tblG_at 82 (by decide +kernel) (by decide +kernel)
theorem w393 : (Cond.code ({ cls := "java/util/Arrays", name := "fill", desc := "([II)V" } : Jvm.MethodName) prog_22_method_103_code (4 : Nat) (Option.none : Option Jvm.ClassFile.FieldType)) ∈ tblG := tblG_at 393 (by decide +kernel) (by decide +kernel)
theorem mX5_119 : zKS RX5 119 yJ7_fill_53178 cJ7_fill_53178 4 none 2 := ⟨w391, w392, w82, w393, by decide, by decide, by decide, by decide +kernel⟩
theorem w394 : (Cond.methodLink "ButlerRemembers$House" (125 : Nat) ({ cls := "ButlerRemembers$House", name := "valueOf", desc := "(IIIII)I" } : Jvm.MethodName)) ∈ tblG := tblG_at 394 (by decide +kernel) (by decide +kernel)
theorem w395 : (Cond.static ({ cls := "ButlerRemembers$House", name := "valueOf", desc := "(IIIII)I" } : Jvm.MethodName)) ∈ tblG := tblG_at 395 (by decide +kernel) (by decide +kernel)
theorem w396 : (Cond.code ({ cls := "ButlerRemembers$House", name := "valueOf", desc := "(IIIII)I" } : Jvm.MethodName) prog_7_method_17_code (5 : Nat) (Option.some Jvm.ClassFile.FieldType.int)) ∈ tblG := tblG_at 396 (by decide +kernel) (by decide +kernel)
theorem mX5_125 : zKS RX5 125 yX5_valueOf cX5_valueOf 5 (some .int) 5 := ⟨w394, w395, w78, w396, by decide, by decide, by decide, by decide +kernel⟩
theorem w400 : (Cond.methodLink "ButlerRemembers$House" (129 : Nat) ({ cls := "ButlerRemembers$House", name := "push", desc := "(I)V" } : Jvm.MethodName)) ∈ tblG := tblG_at 400 (by decide +kernel) (by decide +kernel)
theorem w402 : (Cond.instanceMethod ({ cls := "ButlerRemembers$House", name := "push", desc := "(I)V" } : Jvm.MethodName)) ∈ tblG := tblG_at 402 (by decide +kernel) (by decide +kernel)
theorem w3 : Cond.selects "ButlerRemembers$House" ⟨"ButlerRemembers$House", "push", "(I)V"⟩ ⟨"ButlerRemembers$House", "push", "(I)V"⟩ ∈ tblG := tblG_at 3 (by decide +kernel) (by decide +kernel)
theorem w403 : (Cond.code ({ cls := "ButlerRemembers$House", name := "push", desc := "(I)V" } : Jvm.MethodName) prog_7_method_19_code (2 : Nat) (Option.none : Option Jvm.ClassFile.FieldType)) ∈ tblG := tblG_at 403 (by decide +kernel) (by decide +kernel)
theorem mX5_129 : zKV RX5 129 5 yX5_push cX5_push 2 none 1 := ⟨⟨_, _, rfl⟩, w400, w402, w3, w78, w403, by decide, by decide, by decide, by decide +kernel⟩
theorem w404 : (Cond.methodLink "ButlerRemembers$House" (133 : Nat) ({ cls := "ButlerRemembers$House", name := "pop", desc := "()I" } : Jvm.MethodName)) ∈ tblG := tblG_at 404 (by decide +kernel) (by decide +kernel)
theorem w406 : (Cond.instanceMethod ({ cls := "ButlerRemembers$House", name := "pop", desc := "()I" } : Jvm.MethodName)) ∈ tblG := tblG_at 406 (by decide +kernel) (by decide +kernel)
theorem w4 : Cond.selects "ButlerRemembers$House" ⟨"ButlerRemembers$House", "pop", "()I"⟩ ⟨"ButlerRemembers$House", "pop", "()I"⟩ ∈ tblG := tblG_at 4 (by decide +kernel) (by decide +kernel)
theorem w407 : (Cond.code ({ cls := "ButlerRemembers$House", name := "pop", desc := "()I" } : Jvm.MethodName) prog_7_method_20_code (1 : Nat) (Option.some Jvm.ClassFile.FieldType.int)) ∈ tblG := tblG_at 407 (by decide +kernel) (by decide +kernel)
theorem mX5_133 : zKV RX5 133 5 yX5_pop cX5_pop 1 (some .int) 0 := ⟨⟨_, _, rfl⟩, w404, w406, w4, w78, w407, by decide, by decide, by decide, by decide +kernel⟩
theorem w408 : (Cond.methodLink "ButlerRemembers$House" (136 : Nat) ({ cls := "ButlerRemembers$House", name := "addWeight", desc := "(II[I)V" } : Jvm.MethodName)) ∈ tblG := tblG_at 408 (by decide +kernel) (by decide +kernel)
theorem w409 : (Cond.static ({ cls := "ButlerRemembers$House", name := "addWeight", desc := "(II[I)V" } : Jvm.MethodName)) ∈ tblG := tblG_at 409 (by decide +kernel) (by decide +kernel)
theorem w410 : (Cond.code ({ cls := "ButlerRemembers$House", name := "addWeight", desc := "(II[I)V" } : Jvm.MethodName) prog_7_method_21_code (4 : Nat) (Option.none : Option Jvm.ClassFile.FieldType)) ∈ tblG := tblG_at 410 (by decide +kernel) (by decide +kernel)
theorem mX5_136 : zKS RX5 136 yX5_addWeight cX5_addWeight 4 none 3 := ⟨w408, w409, w78, w410, by decide, by decide, by decide, by decide +kernel⟩
theorem w411 : (Cond.methodLink "ButlerRemembers$House" (140 : Nat) ({ cls := "ButlerRemembers$House", name := "join", desc := "(II)V" } : Jvm.MethodName)) ∈ tblG := tblG_at 411 (by decide +kernel) (by decide +kernel)
theorem w413 : (Cond.instanceMethod ({ cls := "ButlerRemembers$House", name := "join", desc := "(II)V" } : Jvm.MethodName)) ∈ tblG := tblG_at 413 (by decide +kernel) (by decide +kernel)
theorem w5 : Cond.selects "ButlerRemembers$House" ⟨"ButlerRemembers$House", "join", "(II)V"⟩ ⟨"ButlerRemembers$House", "join", "(II)V"⟩ ∈ tblG := tblG_at 5 (by decide +kernel) (by decide +kernel)
theorem w414 : (Cond.code ({ cls := "ButlerRemembers$House", name := "join", desc := "(II)V" } : Jvm.MethodName) prog_7_method_18_code (3 : Nat) (Option.none : Option Jvm.ClassFile.FieldType)) ∈ tblG := tblG_at 414 (by decide +kernel) (by decide +kernel)
theorem mX5_140 : zKV RX5 140 5 yX5_join cX5_join 3 none 2 := ⟨⟨_, _, rfl⟩, w411, w413, w5, w78, w414, by decide, by decide, by decide, by decide +kernel⟩
theorem w700 : (Cond.methodLink "ButlerRemembers$Household" (75 : Nat) ({ cls := "ButlerRemembers$Household", name := "hasMaster", desc := "(I)Z" } : Jvm.MethodName)) ∈ tblG := tblG_at 700 (by decide +kernel) (by decide +kernel)
theorem mX6_75 : zKV RX6 75 6 yX6_hasMaster cX6_hasMaster 2 (some .boolean) 1 := ⟨⟨_, _, rfl⟩, w700, w372, w373, w70, w374, by decide, by decide, by decide, by decide +kernel⟩
theorem w740 : (Cond.methodLink "ButlerRemembers$Household" (79 : Nat) ({ cls := "java/lang/Integer", name := "bitCount", desc := "(I)I" } : Jvm.MethodName)) ∈ tblG := tblG_at 740 (by decide +kernel) (by decide +kernel)
theorem mX6_79 : zKS RX6 79 yJ6_bitCount_0f7a4 cJ6_bitCount_0f7a4 1 (some .int) 1 := ⟨w740, w721, w90, w722, by decide, by decide, by decide, by decide +kernel⟩
theorem w510 : (Cond.methodLink "ButlerRemembers$Household" (85 : Nat) ({ cls := "ButlerRemembers$Household", name := "isOut", desc := "(I)Z" } : Jvm.MethodName)) ∈ tblG := tblG_at 510 (by decide +kernel) (by decide +kernel)
theorem mX6_85 : zKV RX6 85 6 yX6_isOut cX6_isOut 2 (some .boolean) 1 := ⟨⟨_, _, rfl⟩, w510, w499, w500, w70, w501, by decide, by decide, by decide, by decide +kernel⟩
theorem w511 : (Cond.methodLink "ButlerRemembers$Household" (88 : Nat) ({ cls := "ButlerRemembers$Household", name := "heldWithout", desc := "(I)I" } : Jvm.MethodName)) ∈ tblG := tblG_at 511 (by decide +kernel) (by decide +kernel)
theorem mX6_88 : zKV RX6 88 6 yX6_heldWithout cX6_heldWithout 4 (some .int) 1 := ⟨⟨_, _, rfl⟩, w511, w512, w513, w70, w514, by decide, by decide, by decide, by decide +kernel⟩
theorem w741 : (Cond.methodLink "ButlerRemembers$Household" (91 : Nat) ({ cls := "ButlerRemembers$Household", name := "heldByCrew", desc := "(I)I" } : Jvm.MethodName)) ∈ tblG := tblG_at 741 (by decide +kernel) (by decide +kernel)
theorem w742 : (Cond.instanceMethod ({ cls := "ButlerRemembers$Household", name := "heldByCrew", desc := "(I)I" } : Jvm.MethodName)) ∈ tblG := tblG_at 742 (by decide +kernel) (by decide +kernel)
theorem w743 : (Cond.selects "ButlerRemembers$Household" ({ cls := "ButlerRemembers$Household", name := "heldByCrew", desc := "(I)I" } : Jvm.MethodName) ({ cls := "ButlerRemembers$Household", name := "heldByCrew", desc := "(I)I" } : Jvm.MethodName)) ∈ tblG := tblG_at 743 (by decide +kernel) (by decide +kernel)
theorem w744 : (Cond.code ({ cls := "ButlerRemembers$Household", name := "heldByCrew", desc := "(I)I" } : Jvm.MethodName) prog_8_method_15_code (4 : Nat) (Option.some Jvm.ClassFile.FieldType.int)) ∈ tblG := tblG_at 744 (by decide +kernel) (by decide +kernel)
theorem mX6_91 : zKV RX6 91 6 yX6_heldByCrew cX6_heldByCrew 4 (some .int) 1 := ⟨⟨_, _, rfl⟩, w741, w742, w743, w70, w744, by decide, by decide, by decide, by decide +kernel⟩
theorem w749 : (Cond.methodLink "ButlerRemembers$Household" (94 : Nat) ({ cls := "ButlerRemembers$Household", name := "lostWith", desc := "(I)I" } : Jvm.MethodName)) ∈ tblG := tblG_at 749 (by decide +kernel) (by decide +kernel)
theorem mX6_94 : zKV RX6 94 6 yX6_lostWith cX6_lostWith 2 (some .int) 1 := ⟨⟨_, _, rfl⟩, w749, w507, w508, w70, w509, by decide, by decide, by decide, by decide +kernel⟩
theorem w861 : (Cond.methodLink "ButlerRemembers$Household" (97 : Nat) ({ cls := "ButlerRemembers$Household", name := "copyRow", desc := "([I[I)V" } : Jvm.MethodName)) ∈ tblG := tblG_at 861 (by decide +kernel) (by decide +kernel)
theorem w862 : (Cond.static ({ cls := "ButlerRemembers$Household", name := "copyRow", desc := "([I[I)V" } : Jvm.MethodName)) ∈ tblG := tblG_at 862 (by decide +kernel) (by decide +kernel)
theorem w863 : (Cond.code ({ cls := "ButlerRemembers$Household", name := "copyRow", desc := "([I[I)V" } : Jvm.MethodName) prog_8_method_20_code (2 : Nat) (Option.none : Option Jvm.ClassFile.FieldType)) ∈ tblG := tblG_at 863 (by decide +kernel) (by decide +kernel)
theorem mX6_97 : zKS RX6 97 yX6_copyRow cX6_copyRow 2 none 2 := ⟨w861, w862, w70, w863, by decide, by decide, by decide, by decide +kernel⟩
theorem w866 : (Cond.methodLink "ButlerRemembers$Household" (101 : Nat) ({ cls := "ButlerRemembers$Household", name := "copyTable", desc := "([[I[[I)V" } : Jvm.MethodName)) ∈ tblG := tblG_at 866 (by decide +kernel) (by decide +kernel)
theorem w867 : (Cond.static ({ cls := "ButlerRemembers$Household", name := "copyTable", desc := "([[I[[I)V" } : Jvm.MethodName)) ∈ tblG := tblG_at 867 (by decide +kernel) (by decide +kernel)
theorem w868 : (Cond.code ({ cls := "ButlerRemembers$Household", name := "copyTable", desc := "([[I[[I)V" } : Jvm.MethodName) prog_8_method_21_code (3 : Nat) (Option.none : Option Jvm.ClassFile.FieldType)) ∈ tblG := tblG_at 868 (by decide +kernel) (by decide +kernel)
theorem mX6_101 : zKS RX6 101 yX6_copyTable cX6_copyTable 3 none 2 := ⟨w866, w867, w70, w868, by decide, by decide, by decide, by decide +kernel⟩
theorem w864 : (Cond.methodLink "ButlerRemembers$Household" (105 : Nat) ({ cls := "java/lang/Math", name := "min", desc := "(II)I" } : Jvm.MethodName)) ∈ tblG := tblG_at 864 (by decide +kernel) (by decide +kernel)
theorem mX6_105 : zKS RX6 105 yJ9_min_7cf53 cJ9_min_7cf53 2 (some .int) 2 := ⟨w864, w532, w83, w533, by decide, by decide, by decide, by decide +kernel⟩
theorem w910 : (Cond.methodLink "ButlerRemembers$Master" (7 : Nat) ({ cls := "ButlerRemembers$Turn", name := "begin", desc := "(I)V" } : Jvm.MethodName)) ∈ tblG := tblG_at 910 (by decide +kernel) (by decide +kernel)
theorem mX7_7 : zKV RX7 7 10 yX10_begin cX10_begin 2 none 1 := ⟨⟨_, _, rfl⟩, w910, w889, w890, w79, w891, by decide, by decide, by decide, by decide +kernel⟩
theorem w934 : (Cond.methodLink "ButlerRemembers$Master" (17 : Nat) ({ cls := "ButlerRemembers$Master", name := "dines", desc := "(LButlerRemembers$Turn;I)I" } : Jvm.MethodName)) ∈ tblG := tblG_at 934 (by decide +kernel) (by decide +kernel)
theorem mX7_17_0 : zKU RX7 17 0 RX0 "ButlerRemembers$Master" ⟨"ButlerRemembers$Master", "dines", "(LButlerRemembers$Turn;I)I"⟩ yX0_dines cX0_dines 3 (some .int) 2 := ⟨⟨_, _, rfl⟩, w934, w884, w882, ⟨cX7_dines, 3, (some .int), w909⟩, w885, w886, w75, w887, by decide, by decide, by decide, by decide +kernel⟩
theorem mX7_17_1 : zKU RX7 17 1 RX1 "ButlerRemembers$Master" ⟨"ButlerRemembers$Master", "dines", "(LButlerRemembers$Turn;I)I"⟩ yX7_dines cX7_dines 3 (some .int) 2 := ⟨⟨_, _, rfl⟩, w934, w884, w882, ⟨cX7_dines, 3, (some .int), w909⟩, w895, w882, w71, w909, by decide, by decide, by decide, by decide +kernel⟩
theorem mX7_17_2 : zKU RX7 17 2 RX2 "ButlerRemembers$Master" ⟨"ButlerRemembers$Master", "dines", "(LButlerRemembers$Turn;I)I"⟩ yX3_dines cX3_dines 3 (some .int) 2 := ⟨⟨_, _, rfl⟩, w934, w884, w882, ⟨cX7_dines, 3, (some .int), w909⟩, w896, w897, w73, w898, by decide, by decide, by decide, by decide +kernel⟩
theorem mX7_17_3 : zKU RX7 17 3 RX3 "ButlerRemembers$Master" ⟨"ButlerRemembers$Master", "dines", "(LButlerRemembers$Turn;I)I"⟩ yX3_dines cX3_dines 3 (some .int) 2 := ⟨⟨_, _, rfl⟩, w934, w884, w882, ⟨cX7_dines, 3, (some .int), w909⟩, w901, w897, w73, w898, by decide, by decide, by decide, by decide +kernel⟩
theorem mX7_17_4 : zKU RX7 17 4 RX4 "ButlerRemembers$Master" ⟨"ButlerRemembers$Master", "dines", "(LButlerRemembers$Turn;I)I"⟩ yX7_dines cX7_dines 3 (some .int) 2 := ⟨⟨_, _, rfl⟩, w934, w884, w882, ⟨cX7_dines, 3, (some .int), w909⟩, w902, w882, w71, w909, by decide, by decide, by decide, by decide +kernel⟩
theorem mX7_17_7 : zKV RX7 17 7 yX7_dines cX7_dines 3 (some .int) 2 := ⟨⟨_, _, rfl⟩, w934, w882, w883, w71, w909, by decide, by decide, by decide, by decide +kernel⟩
theorem mX7_17_9 : zKU RX7 17 9 RX9 "ButlerRemembers$Master" ⟨"ButlerRemembers$Master", "dines", "(LButlerRemembers$Turn;I)I"⟩ yX9_dines cX9_dines 3 (some .int) 2 := ⟨⟨_, _, rfl⟩, w934, w884, w882, ⟨cX7_dines, 3, (some .int), w909⟩, w903, w904, w77, w905, by decide, by decide, by decide, by decide +kernel⟩
theorem w959 : (Cond.methodLink "ButlerRemembers$Master" (26 : Nat) ({ cls := "ButlerRemembers$Master", name := "nods", desc := "(LButlerRemembers$Turn;I)I" } : Jvm.MethodName)) ∈ tblG := tblG_at 959 (by decide +kernel) (by decide +kernel)
theorem mX7_26_0 : zKU RX7 26 0 RX0 "ButlerRemembers$Master" ⟨"ButlerRemembers$Master", "nods", "(LButlerRemembers$Turn;I)I"⟩ yX0_nods cX0_nods 3 (some .int) 2 := ⟨⟨_, _, rfl⟩, w959, w914, w912, ⟨cX7_nods, 3, (some .int), w933⟩, w915, w916, w75, w917, by decide, by decide, by decide, by decide +kernel⟩
theorem mX7_26_1 : zKU RX7 26 1 RX1 "ButlerRemembers$Master" ⟨"ButlerRemembers$Master", "nods", "(LButlerRemembers$Turn;I)I"⟩ yX7_nods cX7_nods 3 (some .int) 2 := ⟨⟨_, _, rfl⟩, w959, w914, w912, ⟨cX7_nods, 3, (some .int), w933⟩, w923, w912, w71, w933, by decide, by decide, by decide, by decide +kernel⟩
theorem mX7_26_2 : zKU RX7 26 2 RX2 "ButlerRemembers$Master" ⟨"ButlerRemembers$Master", "nods", "(LButlerRemembers$Turn;I)I"⟩ yX7_nods cX7_nods 3 (some .int) 2 := ⟨⟨_, _, rfl⟩, w959, w914, w912, ⟨cX7_nods, 3, (some .int), w933⟩, w924, w912, w71, w933, by decide, by decide, by decide, by decide +kernel⟩
theorem mX7_26_3 : zKU RX7 26 3 RX3 "ButlerRemembers$Master" ⟨"ButlerRemembers$Master", "nods", "(LButlerRemembers$Turn;I)I"⟩ yX7_nods cX7_nods 3 (some .int) 2 := ⟨⟨_, _, rfl⟩, w959, w914, w912, ⟨cX7_nods, 3, (some .int), w933⟩, w925, w912, w71, w933, by decide, by decide, by decide, by decide +kernel⟩
theorem mX7_26_4 : zKU RX7 26 4 RX4 "ButlerRemembers$Master" ⟨"ButlerRemembers$Master", "nods", "(LButlerRemembers$Turn;I)I"⟩ yX4_nods cX4_nods 3 (some .int) 2 := ⟨⟨_, _, rfl⟩, w959, w914, w912, ⟨cX7_nods, 3, (some .int), w933⟩, w926, w919, w72, w920, by decide, by decide, by decide, by decide +kernel⟩
theorem mX7_26_7 : zKV RX7 26 7 yX7_nods cX7_nods 3 (some .int) 2 := ⟨⟨_, _, rfl⟩, w959, w912, w913, w71, w933, by decide, by decide, by decide, by decide +kernel⟩
theorem mX7_26_9 : zKU RX7 26 9 RX9 "ButlerRemembers$Master" ⟨"ButlerRemembers$Master", "nods", "(LButlerRemembers$Turn;I)I"⟩ yX9_nods cX9_nods 3 (some .int) 2 := ⟨⟨_, _, rfl⟩, w959, w914, w912, ⟨cX7_nods, 3, (some .int), w933⟩, w927, w928, w77, w929, by decide, by decide, by decide, by decide +kernel⟩
theorem w988 : (Cond.methodLink "ButlerRemembers$Tape" (22 : Nat) ({ cls := "java/util/Arrays", name := "fill", desc := "([JJ)V" } : Jvm.MethodName)) ∈ tblG := tblG_at 988 (by decide +kernel) (by decide +kernel)
theorem w989 : (Cond.static ({ cls := "java/util/Arrays", name := "fill", desc := "([JJ)V" } : Jvm.MethodName)) ∈ tblG := tblG_at 989 (by decide +kernel) (by decide +kernel)
theorem w990 : (Cond.code ({ cls := "java/util/Arrays", name := "fill", desc := "([JJ)V" } : Jvm.MethodName) prog_22_method_101_code (5 : Nat) (Option.none : Option Jvm.ClassFile.FieldType)) ∈ tblG := tblG_at 990 (by decide +kernel) (by decide +kernel)
theorem mX8_22 : zKS RX8 22 yJ7_fill_d0a16 cJ7_fill_d0a16 5 none 2 := ⟨w988, w989, w82, w990, by decide, by decide, by decide, by decide +kernel⟩
theorem w852 : (Cond.methodLink "ButlerRemembers$Tape" (28 : Nat) ({ cls := "ButlerRemembers$Tape", name := "holdsRow", desc := "()Z" } : Jvm.MethodName)) ∈ tblG := tblG_at 852 (by decide +kernel) (by decide +kernel)
theorem mX8_28 : zKV RX8 28 8 yX8_holdsRow cX8_holdsRow 1 (some .boolean) 0 := ⟨⟨_, _, rfl⟩, w852, w845, w846, w80, w847, by decide, by decide, by decide, by decide +kernel⟩
theorem w450 : (Cond.methodLink "ButlerRemembers$Told" (7 : Nat) ({ cls := "ButlerRemembers$Cousin", name := "firmness", desc := "(IIIII)I" } : Jvm.MethodName)) ∈ tblG := tblG_at 450 (by decide +kernel) (by decide +kernel)
theorem w1435 : (Cond.sameMethod "ButlerRemembers$Cousin" "ButlerRemembers$Cousin" "firmness" "(IIIII)I") ∈ tblG := tblG_at 1435 (by decide +kernel) (by decide +kernel)
theorem w234 : (Cond.superclass "ButlerRemembers$Told" "ButlerRemembers$Cousin") ∈ tblG := tblG_at 234 (by decide +kernel) (by decide +kernel)
theorem mX9_7 : zKP RX9 7 ⟨"ButlerRemembers$Cousin", "firmness", "(IIIII)I"⟩ yX1_firmness cX1_firmness 6 (some .int) 5 := ⟨w450, w1435, w234, Or.inl rfl, rfl, w435, w74, w436, by decide, by decide, by decide +kernel⟩
theorem w906 : (Cond.methodLink "ButlerRemembers$Told" (11 : Nat) ({ cls := "ButlerRemembers$Turn", name := "begin", desc := "(I)V" } : Jvm.MethodName)) ∈ tblG := tblG_at 906 (by decide +kernel) (by decide +kernel)
theorem mX9_11 : zKV RX9 11 10 yX10_begin cX10_begin 2 none 1 := ⟨⟨_, _, rfl⟩, w906, w889, w890, w79, w891, by decide, by decide, by decide, by decide +kernel⟩
theorem w930 : (Cond.methodLink "ButlerRemembers$Told" (17 : Nat) ({ cls := "ButlerRemembers$Cousin", name := "nods", desc := "(LButlerRemembers$Turn;I)I" } : Jvm.MethodName)) ∈ tblG := tblG_at 930 (by decide +kernel) (by decide +kernel)
theorem mX9_17 : zKP RX9 17 ⟨"ButlerRemembers$Cousin", "nods", "(LButlerRemembers$Turn;I)I"⟩ yX7_nods cX7_nods 3 (some .int) 2 := ⟨w930, w931, w234, Or.inr (w213), rfl, w912, w71, w933, by decide, by decide, by decide +kernel⟩
theorem w907 : (Cond.methodLink "ButlerRemembers$Told" (21 : Nat) ({ cls := "ButlerRemembers$Cousin", name := "dines", desc := "(LButlerRemembers$Turn;I)I" } : Jvm.MethodName)) ∈ tblG := tblG_at 907 (by decide +kernel) (by decide +kernel)
theorem w908 : (Cond.sameMethod "ButlerRemembers$Cousin" "ButlerRemembers$Master" "dines" "(LButlerRemembers$Turn;I)I") ∈ tblG := tblG_at 908 (by decide +kernel) (by decide +kernel)
theorem mX9_21 : zKP RX9 21 ⟨"ButlerRemembers$Cousin", "dines", "(LButlerRemembers$Turn;I)I"⟩ yX7_dines cX7_dines 3 (some .int) 2 := ⟨w907, w908, w234, Or.inr (w213), rfl, w882, w71, w909, by decide, by decide, by decide +kernel⟩
