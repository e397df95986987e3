theorem zIn (ws : List Cond) (ps : List Nat) (hp : ws.map some = ps.map (fun i => lw_tbl[i]?)) (hg : ws.all goodWord = true) : ∀ w ∈ ws, w ∈ tblG := by
  intro w hw
  have h1 : some w ∈ ws.map some := List.mem_map.mpr ⟨w, hw, rfl⟩
  rw [hp] at h1
  obtain ⟨i, -, hi⟩ := List.mem_map.mp h1
  exact tblG_at i hi (List.all_eq_true.mp hg w hw)
theorem inG0 : ∀ w ∈ u_ws RX0 TX0 0, w ∈ tblG := by decide +kernel
theorem inG1 : ∀ w ∈ u_ws RX1 TX1 0, w ∈ tblG := by decide +kernel
theorem inG2 : ∀ w ∈ u_ws RX2 TX2 0, w ∈ tblG := by decide +kernel
theorem inG3 : ∀ w ∈ u_ws RX3 TX3 0, w ∈ tblG := by decide +kernel
theorem inG4 : ∀ w ∈ u_ws RX4 TX4 0, w ∈ tblG := by decide +kernel
theorem inG5 : ∀ w ∈ u_ws RX5 TX5 9, w ∈ tblG := zIn _ [250, 252, 254, 256, 258, 260, 262, 264, 266] (by decide +kernel) (by decide +kernel)
theorem inG6 : ∀ w ∈ u_ws RX6 TX6 20, w ∈ tblG := zIn _ [142, 144, 146, 148, 150, 152, 154, 156, 158, 160, 162, 164, 166, 168, 170, 172, 174, 176, 178, 180] (by decide +kernel) (by decide +kernel)
theorem inG7 : ∀ w ∈ u_ws RX7 TX7 0, w ∈ tblG := by decide +kernel
theorem inG8 : ∀ w ∈ u_ws RX8 TX8 3, w ∈ tblG := zIn _ [310, 312, 314] (by decide +kernel) (by decide +kernel)
theorem inG9 : ∀ w ∈ u_ws RX9 TX9 0, w ∈ tblG := by decide +kernel
theorem inG10 : ∀ w ∈ u_ws RX10 TX10 4, w ∈ tblG := zIn _ [289, 291, 293, 295] (by decide +kernel) (by decide +kernel)
theorem inG11 : ∀ w ∈ u_ws RX11 TX11 13, w ∈ tblG := zIn _ [331, 333, 335, 337, 339, 341, 343, 345, 347, 349, 351, 353, 355] (by decide +kernel) (by decide +kernel)
theorem inG12 : ∀ w ∈ u_ws RX12 TX12 28, w ∈ tblG := zIn _ [1040, 1042, 1044, 1046, 1048, 1050, 1052, 1054, 1056, 1058, 1060, 1062, 1064, 1066, 1068, 1070, 1072, 1074, 1076, 1078, 1080, 1082, 1084, 1086, 1088, 1090, 1092, 1094] (by decide +kernel) (by decide +kernel)
theorem w277 : (Cond.fieldLink "ButlerRemembers$Turn" (7 : Nat) "ButlerRemembers$Turn" "number" "I") ∈ tblG := tblG_at 277 (by decide +kernel) (by decide +kernel)
theorem pX10_7 : zFp RX10 7 10 0 .int false := ⟨RX10, TX10, 4, tyX10, rfl, by decide, w277, inG10, tyX10_ok, nmX10, rfl, rfl, fun q => by cases q⟩
theorem w281 : (Cond.fieldLink "ButlerRemembers$Turn" (13 : Nat) "ButlerRemembers$Turn" "v" "I") ∈ tblG := tblG_at 281 (by decide +kernel) (by decide +kernel)
theorem pX10_13 : zFp RX10 13 10 1 .int false := ⟨RX10, TX10, 4, tyX10, rfl, by decide, w281, inG10, tyX10_ok, nmX10, rfl, rfl, fun q => by cases q⟩
theorem w285 : (Cond.fieldLink "ButlerRemembers$Turn" (16 : Nat) "ButlerRemembers$Turn" "ran" "I") ∈ tblG := tblG_at 285 (by decide +kernel) (by decide +kernel)
theorem qX10_16 : zFg RX10 16 10 2 := ⟨RX10, TX10, 4, rfl, by decide, w285, inG10⟩
theorem pX10_16 : zFp RX10 16 10 2 .int false := ⟨RX10, TX10, 4, tyX10, rfl, by decide, w285, inG10, tyX10_ok, nmX10, rfl, rfl, fun q => by cases q⟩
theorem w287 : (Cond.fieldLink "ButlerRemembers$Turn" (19 : Nat) "ButlerRemembers$Turn" "bodies" "[I") ∈ tblG := tblG_at 287 (by decide +kernel) (by decide +kernel)
theorem qX10_19 : zFg RX10 19 10 3 := ⟨RX10, TX10, 4, rfl, by decide, w287, inG10⟩
theorem pX10_19 : zFp RX10 19 10 3 (.array .int) true := ⟨RX10, TX10, 4, tyX10, rfl, by decide, w287, inG10, tyX10_ok, nmX10, rfl, rfl, fun _ => rfl⟩
theorem w318 : (Cond.fieldLink "ButlerRemembers" (12 : Nat) "ButlerRemembers" "now" "LButlerRemembers$Household;") ∈ tblG := tblG_at 318 (by decide +kernel) (by decide +kernel)
theorem qX11_12 : zFg RX11 12 11 0 := ⟨RX11, TX11, 13, rfl, by decide, w318, inG11⟩
theorem pX11_12 : zFp RX11 12 11 0 (.object "ButlerRemembers$Household") true := ⟨RX11, TX11, 13, tyX11, rfl, by decide, w318, inG11, tyX11_ok, nmX11, rfl, rfl, fun _ => rfl⟩
theorem w319 : (Cond.fieldLink "ButlerRemembers" (18 : Nat) "ButlerRemembers" "saved" "LButlerRemembers$Household;") ∈ tblG := tblG_at 319 (by decide +kernel) (by decide +kernel)
theorem qX11_18 : zFg RX11 18 11 1 := ⟨RX11, TX11, 13, rfl, by decide, w319, inG11⟩
theorem pX11_18 : zFp RX11 18 11 1 (.object "ButlerRemembers$Household") true := ⟨RX11, TX11, 13, tyX11, rfl, by decide, w319, inG11, tyX11_ok, nmX11, rfl, rfl, fun _ => rfl⟩
theorem w320 : (Cond.fieldLink "ButlerRemembers" (21 : Nat) "ButlerRemembers" "imageTaken" "Z") ∈ tblG := tblG_at 320 (by decide +kernel) (by decide +kernel)
theorem qX11_21 : zFg RX11 21 11 2 := ⟨RX11, TX11, 13, rfl, by decide, w320, inG11⟩
theorem pX11_21 : zFp RX11 21 11 2 .boolean false := ⟨RX11, TX11, 13, tyX11, rfl, by decide, w320, inG11, tyX11_ok, nmX11, rfl, rfl, fun q => by cases q⟩
theorem w321 : (Cond.fieldLink "ButlerRemembers" (46 : Nat) "ButlerRemembers" "manners" "[LButlerRemembers$Master;") ∈ tblG := tblG_at 321 (by decide +kernel) (by decide +kernel)
theorem qX11_46 : zFg RX11 46 11 3 := ⟨RX11, TX11, 13, rfl, by decide, w321, inG11⟩
theorem pX11_46 : zFp RX11 46 11 3 (.array (.object "ButlerRemembers$Master")) true := ⟨RX11, TX11, 13, tyX11, rfl, by decide, w321, inG11, tyX11_ok, nmX11, rfl, rfl, fun _ => rfl⟩
theorem w322 : (Cond.fieldLink "ButlerRemembers" (53 : Nat) "ButlerRemembers" "bare" "LButlerRemembers$House;") ∈ tblG := tblG_at 322 (by decide +kernel) (by decide +kernel)
theorem qX11_53 : zFg RX11 53 11 4 := ⟨RX11, TX11, 13, rfl, by decide, w322, inG11⟩
theorem pX11_53 : zFp RX11 53 11 4 (.object "ButlerRemembers$House") true := ⟨RX11, TX11, 13, tyX11, rfl, by decide, w322, inG11, tyX11_ok, nmX11, rfl, rfl, fun _ => rfl⟩
theorem w323 : (Cond.fieldLink "ButlerRemembers" (57 : Nat) "ButlerRemembers" "houses" "[LButlerRemembers$House;") ∈ tblG := tblG_at 323 (by decide +kernel) (by decide +kernel)
theorem qX11_57 : zFg RX11 57 11 5 := ⟨RX11, TX11, 13, rfl, by decide, w323, inG11⟩
theorem pX11_57 : zFp RX11 57 11 5 (.array (.object "ButlerRemembers$House")) true := ⟨RX11, TX11, 13, tyX11, rfl, by decide, w323, inG11, tyX11_ok, nmX11, rfl, rfl, fun _ => rfl⟩
theorem w324 : (Cond.fieldLink "ButlerRemembers" (61 : Nat) "ButlerRemembers" "houseCount" "I") ∈ tblG := tblG_at 324 (by decide +kernel) (by decide +kernel)
theorem qX11_61 : zFg RX11 61 11 6 := ⟨RX11, TX11, 13, rfl, by decide, w324, inG11⟩
theorem pX11_61 : zFp RX11 61 11 6 .int false := ⟨RX11, TX11, 13, tyX11, rfl, by decide, w324, inG11, tyX11_ok, nmX11, rfl, rfl, fun q => by cases q⟩
theorem w325 : (Cond.fieldLink "ButlerRemembers" (65 : Nat) "ButlerRemembers" "text" "[B") ∈ tblG := tblG_at 325 (by decide +kernel) (by decide +kernel)
theorem qX11_65 : zFg RX11 65 11 7 := ⟨RX11, TX11, 13, rfl, by decide, w325, inG11⟩
theorem pX11_65 : zFp RX11 65 11 7 (.array .byte) true := ⟨RX11, TX11, 13, tyX11, rfl, by decide, w325, inG11, tyX11_ok, nmX11, rfl, rfl, fun _ => rfl⟩
theorem w326 : (Cond.fieldLink "ButlerRemembers" (69 : Nat) "ButlerRemembers" "textLength" "I") ∈ tblG := tblG_at 326 (by decide +kernel) (by decide +kernel)
theorem qX11_69 : zFg RX11 69 11 8 := ⟨RX11, TX11, 13, rfl, by decide, w326, inG11⟩
theorem pX11_69 : zFp RX11 69 11 8 .int false := ⟨RX11, TX11, 13, tyX11, rfl, by decide, w326, inG11, tyX11_ok, nmX11, rfl, rfl, fun q => by cases q⟩
theorem w327 : (Cond.fieldLink "ButlerRemembers" (75 : Nat) "ButlerRemembers" "turn" "LButlerRemembers$Turn;") ∈ tblG := tblG_at 327 (by decide +kernel) (by decide +kernel)
theorem qX11_75 : zFg RX11 75 11 9 := ⟨RX11, TX11, 13, rfl, by decide, w327, inG11⟩
theorem pX11_75 : zFp RX11 75 11 9 (.object "ButlerRemembers$Turn") true := ⟨RX11, TX11, 13, tyX11, rfl, by decide, w327, inG11, tyX11_ok, nmX11, rfl, rfl, fun _ => rfl⟩
theorem w328 : (Cond.fieldLink "ButlerRemembers" (81 : Nat) "ButlerRemembers" "tapes" "[LButlerRemembers$Tape;") ∈ tblG := tblG_at 328 (by decide +kernel) (by decide +kernel)
theorem qX11_81 : zFg RX11 81 11 10 := ⟨RX11, TX11, 13, rfl, by decide, w328, inG11⟩
theorem pX11_81 : zFp RX11 81 11 10 (.array (.object "ButlerRemembers$Tape")) true := ⟨RX11, TX11, 13, tyX11, rfl, by decide, w328, inG11, tyX11_ok, nmX11, rfl, rfl, fun _ => rfl⟩
theorem w329 : (Cond.fieldLink "ButlerRemembers" (85 : Nat) "ButlerRemembers" "sums" "[I") ∈ tblG := tblG_at 329 (by decide +kernel) (by decide +kernel)
theorem qX11_85 : zFg RX11 85 11 11 := ⟨RX11, TX11, 13, rfl, by decide, w329, inG11⟩
theorem pX11_85 : zFp RX11 85 11 11 (.array .int) true := ⟨RX11, TX11, 13, tyX11, rfl, by decide, w329, inG11, tyX11_ok, nmX11, rfl, rfl, fun _ => rfl⟩
theorem w330 : (Cond.fieldLink "ButlerRemembers" (89 : Nat) "ButlerRemembers" "dream" "[I") ∈ tblG := tblG_at 330 (by decide +kernel) (by decide +kernel)
theorem qX11_89 : zFg RX11 89 11 12 := ⟨RX11, TX11, 13, rfl, by decide, w330, inG11⟩
theorem pX11_89 : zFp RX11 89 11 12 (.array .int) true := ⟨RX11, TX11, 13, tyX11, rfl, by decide, w330, inG11, tyX11_ok, nmX11, rfl, rfl, fun _ => rfl⟩
theorem w109 : (Cond.fieldLink "ButlerRemembers" (104 : Nat) "ButlerRemembers$Household" "kinds" "[I") ∈ tblG := tblG_at 109 (by decide +kernel) (by decide +kernel)
theorem qX11_104 : zFg RX11 104 6 1 := ⟨RX6, TX6, 20, rfl, by decide, w109, inG6⟩
theorem w111 : (Cond.fieldLink "ButlerRemembers" (107 : Nat) "ButlerRemembers$Household" "vs" "[I") ∈ tblG := tblG_at 111 (by decide +kernel) (by decide +kernel)
theorem qX11_107 : zFg RX11 107 6 2 := ⟨RX6, TX6, 20, rfl, by decide, w111, inG6⟩
theorem w113 : (Cond.fieldLink "ButlerRemembers" (110 : Nat) "ButlerRemembers$Household" "minds" "[I") ∈ tblG := tblG_at 113 (by decide +kernel) (by decide +kernel)
theorem qX11_110 : zFg RX11 110 6 3 := ⟨RX6, TX6, 20, rfl, by decide, w113, inG6⟩
theorem w127 : (Cond.fieldLink "ButlerRemembers" (120 : Nat) "ButlerRemembers$Household" "day" "I") ∈ tblG := tblG_at 127 (by decide +kernel) (by decide +kernel)
theorem qX11_120 : zFg RX11 120 6 12 := ⟨RX6, TX6, 20, rfl, by decide, w127, inG6⟩
theorem pX11_120 : zFp RX11 120 6 12 .int false := ⟨RX6, TX6, 20, tyX6, rfl, by decide, w127, inG6, tyX6_ok, nmX6, rfl, rfl, fun q => by cases q⟩
theorem w125 : (Cond.fieldLink "ButlerRemembers" (151 : Nat) "ButlerRemembers$Household" "outs" "I") ∈ tblG := tblG_at 125 (by decide +kernel) (by decide +kernel)
theorem qX11_151 : zFg RX11 151 6 11 := ⟨RX6, TX6, 20, rfl, by decide, w125, inG6⟩
theorem pX11_151 : zFp RX11 151 6 11 .int false := ⟨RX6, TX6, 20, tyX6, rfl, by decide, w125, inG6, tyX6_ok, nmX6, rfl, rfl, fun q => by cases q⟩
theorem w115 : (Cond.fieldLink "ButlerRemembers" (157 : Nat) "ButlerRemembers$Household" "rows" "[I") ∈ tblG := tblG_at 115 (by decide +kernel) (by decide +kernel)
theorem qX11_157 : zFg RX11 157 6 4 := ⟨RX6, TX6, 20, rfl, by decide, w115, inG6⟩
theorem w129 : (Cond.fieldLink "ButlerRemembers" (164 : Nat) "ButlerRemembers$Household" "held" "I") ∈ tblG := tblG_at 129 (by decide +kernel) (by decide +kernel)
theorem qX11_164 : zFg RX11 164 6 13 := ⟨RX6, TX6, 20, rfl, by decide, w129, inG6⟩
theorem pX11_164 : zFp RX11 164 6 13 .int false := ⟨RX6, TX6, 20, tyX6, rfl, by decide, w129, inG6, tyX6_ok, nmX6, rfl, rfl, fun q => by cases q⟩
theorem w241 : (Cond.fieldLink "ButlerRemembers" (167 : Nat) "ButlerRemembers$House" "hours" "I") ∈ tblG := tblG_at 241 (by decide +kernel) (by decide +kernel)
theorem qX11_167 : zFg RX11 167 5 0 := ⟨RX5, TX5, 9, rfl, by decide, w241, inG5⟩
theorem w131 : (Cond.fieldLink "ButlerRemembers" (205 : Nat) "ButlerRemembers$Household" "seenCount" "I") ∈ tblG := tblG_at 131 (by decide +kernel) (by decide +kernel)
theorem qX11_205 : zFg RX11 205 6 14 := ⟨RX6, TX6, 20, rfl, by decide, w131, inG6⟩
theorem pX11_205 : zFp RX11 205 6 14 .int false := ⟨RX6, TX6, 20, tyX6, rfl, by decide, w131, inG6, tyX6_ok, nmX6, rfl, rfl, fun q => by cases q⟩
theorem w133 : (Cond.fieldLink "ButlerRemembers" (212 : Nat) "ButlerRemembers$Household" "seenRows" "[[I") ∈ tblG := tblG_at 133 (by decide +kernel) (by decide +kernel)
theorem qX11_212 : zFg RX11 212 6 15 := ⟨RX6, TX6, 20, rfl, by decide, w133, inG6⟩
theorem w122 : (Cond.fieldLink "ButlerRemembers" (233 : Nat) "ButlerRemembers$Household" "footmanCount" "I") ∈ tblG := tblG_at 122 (by decide +kernel) (by decide +kernel)
theorem qX11_233 : zFg RX11 233 6 9 := ⟨RX6, TX6, 20, rfl, by decide, w122, inG6⟩
theorem w107 : (Cond.fieldLink "ButlerRemembers" (240 : Nat) "ButlerRemembers$Household" "masterCount" "I") ∈ tblG := tblG_at 107 (by decide +kernel) (by decide +kernel)
theorem qX11_240 : zFg RX11 240 6 0 := ⟨RX6, TX6, 20, rfl, by decide, w107, inG6⟩
theorem w135 : (Cond.fieldLink "ButlerRemembers" (243 : Nat) "ButlerRemembers$Household" "planCount" "I") ∈ tblG := tblG_at 135 (by decide +kernel) (by decide +kernel)
theorem qX11_243 : zFg RX11 243 6 16 := ⟨RX6, TX6, 20, rfl, by decide, w135, inG6⟩
theorem pX11_243 : zFp RX11 243 6 16 .int false := ⟨RX6, TX6, 20, tyX6, rfl, by decide, w135, inG6, tyX6_ok, nmX6, rfl, rfl, fun q => by cases q⟩
theorem w137 : (Cond.fieldLink "ButlerRemembers" (249 : Nat) "ButlerRemembers$Household" "planRows" "[[I") ∈ tblG := tblG_at 137 (by decide +kernel) (by decide +kernel)
theorem qX11_249 : zFg RX11 249 6 17 := ⟨RX6, TX6, 20, rfl, by decide, w137, inG6⟩
theorem w139 : (Cond.fieldLink "ButlerRemembers" (256 : Nat) "ButlerRemembers$Household" "bookCount" "I") ∈ tblG := tblG_at 139 (by decide +kernel) (by decide +kernel)
theorem qX11_256 : zFg RX11 256 6 18 := ⟨RX6, TX6, 20, rfl, by decide, w139, inG6⟩
theorem pX11_256 : zFp RX11 256 6 18 .int false := ⟨RX6, TX6, 20, tyX6, rfl, by decide, w139, inG6, tyX6_ok, nmX6, rfl, rfl, fun q => by cases q⟩
theorem w141 : (Cond.fieldLink "ButlerRemembers" (262 : Nat) "ButlerRemembers$Household" "bookRows" "[[I") ∈ tblG := tblG_at 141 (by decide +kernel) (by decide +kernel)
theorem qX11_262 : zFg RX11 262 6 19 := ⟨RX6, TX6, 20, rfl, by decide, w141, inG6⟩
theorem w306 : (Cond.fieldLink "ButlerRemembers" (271 : Nat) "ButlerRemembers$Tape" "sort" "I") ∈ tblG := tblG_at 306 (by decide +kernel) (by decide +kernel)
theorem qX11_271 : zFg RX11 271 8 0 := ⟨RX8, TX8, 3, rfl, by decide, w306, inG8⟩
theorem w309 : (Cond.fieldLink "ButlerRemembers" (278 : Nat) "ButlerRemembers$Tape" "items" "[J") ∈ tblG := tblG_at 309 (by decide +kernel) (by decide +kernel)
theorem qX11_278 : zFg RX11 278 8 2 := ⟨RX8, TX8, 3, rfl, by decide, w309, inG8⟩
theorem w280 : (Cond.fieldLink "ButlerRemembers" (289 : Nat) "ButlerRemembers$Turn" "number" "I") ∈ tblG := tblG_at 280 (by decide +kernel) (by decide +kernel)
theorem pX11_289 : zFp RX11 289 10 0 .int false := ⟨RX10, TX10, 4, tyX10, rfl, by decide, w280, inG10, tyX10_ok, nmX10, rfl, rfl, fun q => by cases q⟩
theorem w284 : (Cond.fieldLink "ButlerRemembers" (292 : Nat) "ButlerRemembers$Turn" "v" "I") ∈ tblG := tblG_at 284 (by decide +kernel) (by decide +kernel)
theorem pX11_292 : zFp RX11 292 10 1 .int false := ⟨RX10, TX10, 4, tyX10, rfl, by decide, w284, inG10, tyX10_ok, nmX10, rfl, rfl, fun q => by cases q⟩
theorem w288 : (Cond.fieldLink "ButlerRemembers" (312 : Nat) "ButlerRemembers$Turn" "bodies" "[I") ∈ tblG := tblG_at 288 (by decide +kernel) (by decide +kernel)
theorem qX11_312 : zFg RX11 312 10 3 := ⟨RX10, TX10, 4, rfl, by decide, w288, inG10⟩
theorem w117 : (Cond.fieldLink "ButlerRemembers" (319 : Nat) "ButlerRemembers$Household" "deedCount" "I") ∈ tblG := tblG_at 117 (by decide +kernel) (by decide +kernel)
theorem qX11_319 : zFg RX11 319 6 5 := ⟨RX6, TX6, 20, rfl, by decide, w117, inG6⟩
theorem w286 : (Cond.fieldLink "ButlerRemembers" (322 : Nat) "ButlerRemembers$Turn" "ran" "I") ∈ tblG := tblG_at 286 (by decide +kernel) (by decide +kernel)
theorem qX11_322 : zFg RX11 322 10 2 := ⟨RX10, TX10, 4, rfl, by decide, w286, inG10⟩
theorem w1012 : (Cond.fieldLink "ButlerRemembersModel" (9 : Nat) "ButlerRemembersModel" "now" "[I") ∈ tblG := tblG_at 1012 (by decide +kernel) (by decide +kernel)
theorem qX12_9 : zFg RX12 9 12 0 := ⟨RX12, TX12, 28, rfl, by decide, w1012, inG12⟩
theorem pX12_9 : zFp RX12 9 12 0 (.array .int) true := ⟨RX12, TX12, 28, tyX12, rfl, by decide, w1012, inG12, tyX12_ok, nmX12, rfl, rfl, fun _ => rfl⟩
theorem w1013 : (Cond.fieldLink "ButlerRemembersModel" (15 : Nat) "ButlerRemembersModel" "mind" "[I") ∈ tblG := tblG_at 1013 (by decide +kernel) (by decide +kernel)
theorem qX12_15 : zFg RX12 15 12 1 := ⟨RX12, TX12, 28, rfl, by decide, w1013, inG12⟩
theorem pX12_15 : zFp RX12 15 12 1 (.array .int) true := ⟨RX12, TX12, 28, tyX12, rfl, by decide, w1013, inG12, tyX12_ok, nmX12, rfl, rfl, fun _ => rfl⟩
theorem w1014 : (Cond.fieldLink "ButlerRemembersModel" (18 : Nat) "ButlerRemembersModel" "then" "[I") ∈ tblG := tblG_at 1014 (by decide +kernel) (by decide +kernel)
theorem qX12_18 : zFg RX12 18 12 2 := ⟨RX12, TX12, 28, rfl, by decide, w1014, inG12⟩
theorem pX12_18 : zFp RX12 18 12 2 (.array .int) true := ⟨RX12, TX12, 28, tyX12, rfl, by decide, w1014, inG12, tyX12_ok, nmX12, rfl, rfl, fun _ => rfl⟩
theorem w1016 : (Cond.fieldLink "ButlerRemembersModel" (21 : Nat) "ButlerRemembersModel" "text" "[I") ∈ tblG := tblG_at 1016 (by decide +kernel) (by decide +kernel)
theorem qX12_21 : zFg RX12 21 12 4 := ⟨RX12, TX12, 28, rfl, by decide, w1016, inG12⟩
theorem pX12_21 : zFp RX12 21 12 4 (.array .int) true := ⟨RX12, TX12, 28, tyX12, rfl, by decide, w1016, inG12, tyX12_ok, nmX12, rfl, rfl, fun _ => rfl⟩
theorem w1018 : (Cond.fieldLink "ButlerRemembersModel" (24 : Nat) "ButlerRemembersModel" "rules" "[I") ∈ tblG := tblG_at 1018 (by decide +kernel) (by decide +kernel)
theorem qX12_24 : zFg RX12 24 12 6 := ⟨RX12, TX12, 28, rfl, by decide, w1018, inG12⟩
theorem pX12_24 : zFp RX12 24 12 6 (.array .int) true := ⟨RX12, TX12, 28, tyX12, rfl, by decide, w1018, inG12, tyX12_ok, nmX12, rfl, rfl, fun _ => rfl⟩
theorem w1019 : (Cond.fieldLink "ButlerRemembersModel" (27 : Nat) "ButlerRemembersModel" "sizes" "[I") ∈ tblG := tblG_at 1019 (by decide +kernel) (by decide +kernel)
theorem qX12_27 : zFg RX12 27 12 7 := ⟨RX12, TX12, 28, rfl, by decide, w1019, inG12⟩
theorem pX12_27 : zFp RX12 27 12 7 (.array .int) true := ⟨RX12, TX12, 28, tyX12, rfl, by decide, w1019, inG12, tyX12_ok, nmX12, rfl, rfl, fun _ => rfl⟩
theorem w1021 : (Cond.fieldLink "ButlerRemembersModel" (30 : Nat) "ButlerRemembersModel" "read" "[I") ∈ tblG := tblG_at 1021 (by decide +kernel) (by decide +kernel)
theorem qX12_30 : zFg RX12 30 12 9 := ⟨RX12, TX12, 28, rfl, by decide, w1021, inG12⟩
theorem pX12_30 : zFp RX12 30 12 9 (.array .int) true := ⟨RX12, TX12, 28, tyX12, rfl, by decide, w1021, inG12, tyX12_ok, nmX12, rfl, rfl, fun _ => rfl⟩
theorem w1028 : (Cond.fieldLink "ButlerRemembersModel" (33 : Nat) "ButlerRemembersModel" "names" "[I") ∈ tblG := tblG_at 1028 (by decide +kernel) (by decide +kernel)
theorem qX12_33 : zFg RX12 33 12 16 := ⟨RX12, TX12, 28, rfl, by decide, w1028, inG12⟩
theorem pX12_33 : zFp RX12 33 12 16 (.array .int) true := ⟨RX12, TX12, 28, tyX12, rfl, by decide, w1028, inG12, tyX12_ok, nmX12, rfl, rfl, fun _ => rfl⟩
theorem w1029 : (Cond.fieldLink "ButlerRemembersModel" (36 : Nat) "ButlerRemembersModel" "letters" "[C") ∈ tblG := tblG_at 1029 (by decide +kernel) (by decide +kernel)
theorem qX12_36 : zFg RX12 36 12 17 := ⟨RX12, TX12, 28, rfl, by decide, w1029, inG12⟩
theorem pX12_36 : zFp RX12 36 12 17 (.array .char) true := ⟨RX12, TX12, 28, tyX12, rfl, by decide, w1029, inG12, tyX12_ok, nmX12, rfl, rfl, fun _ => rfl⟩
theorem w1030 : (Cond.fieldLink "ButlerRemembersModel" (40 : Nat) "ButlerRemembersModel" "begins" "[C") ∈ tblG := tblG_at 1030 (by decide +kernel) (by decide +kernel)
theorem qX12_40 : zFg RX12 40 12 18 := ⟨RX12, TX12, 28, rfl, by decide, w1030, inG12⟩
theorem pX12_40 : zFp RX12 40 12 18 (.array .char) true := ⟨RX12, TX12, 28, tyX12, rfl, by decide, w1030, inG12, tyX12_ok, nmX12, rfl, rfl, fun _ => rfl⟩
theorem w1031 : (Cond.fieldLink "ButlerRemembersModel" (43 : Nat) "ButlerRemembersModel" "words" "[C") ∈ tblG := tblG_at 1031 (by decide +kernel) (by decide +kernel)
theorem qX12_43 : zFg RX12 43 12 19 := ⟨RX12, TX12, 28, rfl, by decide, w1031, inG12⟩
theorem pX12_43 : zFp RX12 43 12 19 (.array .char) true := ⟨RX12, TX12, 28, tyX12, rfl, by decide, w1031, inG12, tyX12_ok, nmX12, rfl, rfl, fun _ => rfl⟩
theorem w1032 : (Cond.fieldLink "ButlerRemembersModel" (46 : Nat) "ButlerRemembersModel" "above" "[I") ∈ tblG := tblG_at 1032 (by decide +kernel) (by decide +kernel)
theorem qX12_46 : zFg RX12 46 12 20 := ⟨RX12, TX12, 28, rfl, by decide, w1032, inG12⟩
theorem pX12_46 : zFp RX12 46 12 20 (.array .int) true := ⟨RX12, TX12, 28, tyX12, rfl, by decide, w1032, inG12, tyX12_ok, nmX12, rfl, rfl, fun _ => rfl⟩
theorem w1033 : (Cond.fieldLink "ButlerRemembersModel" (49 : Nat) "ButlerRemembersModel" "bodies" "[I") ∈ tblG := tblG_at 1033 (by decide +kernel) (by decide +kernel)
theorem qX12_49 : zFg RX12 49 12 21 := ⟨RX12, TX12, 28, rfl, by decide, w1033, inG12⟩
theorem pX12_49 : zFp RX12 49 12 21 (.array .int) true := ⟨RX12, TX12, 28, tyX12, rfl, by decide, w1033, inG12, tyX12_ok, nmX12, rfl, rfl, fun _ => rfl⟩
theorem w1034 : (Cond.fieldLink "ButlerRemembersModel" (52 : Nat) "ButlerRemembersModel" "trace" "[I") ∈ tblG := tblG_at 1034 (by decide +kernel) (by decide +kernel)
theorem qX12_52 : zFg RX12 52 12 22 := ⟨RX12, TX12, 28, rfl, by decide, w1034, inG12⟩
theorem pX12_52 : zFp RX12 52 12 22 (.array .int) true := ⟨RX12, TX12, 28, tyX12, rfl, by decide, w1034, inG12, tyX12_ok, nmX12, rfl, rfl, fun _ => rfl⟩
theorem w1036 : (Cond.fieldLink "ButlerRemembersModel" (55 : Nat) "ButlerRemembersModel" "sorts" "[I") ∈ tblG := tblG_at 1036 (by decide +kernel) (by decide +kernel)
theorem qX12_55 : zFg RX12 55 12 24 := ⟨RX12, TX12, 28, rfl, by decide, w1036, inG12⟩
theorem pX12_55 : zFp RX12 55 12 24 (.array .int) true := ⟨RX12, TX12, 28, tyX12, rfl, by decide, w1036, inG12, tyX12_ok, nmX12, rfl, rfl, fun _ => rfl⟩
theorem w1037 : (Cond.fieldLink "ButlerRemembersModel" (58 : Nat) "ButlerRemembersModel" "lengths" "[I") ∈ tblG := tblG_at 1037 (by decide +kernel) (by decide +kernel)
theorem qX12_58 : zFg RX12 58 12 25 := ⟨RX12, TX12, 28, rfl, by decide, w1037, inG12⟩
theorem pX12_58 : zFp RX12 58 12 25 (.array .int) true := ⟨RX12, TX12, 28, tyX12, rfl, by decide, w1037, inG12, tyX12_ok, nmX12, rfl, rfl, fun _ => rfl⟩
theorem w1038 : (Cond.fieldLink "ButlerRemembersModel" (61 : Nat) "ButlerRemembersModel" "items" "[J") ∈ tblG := tblG_at 1038 (by decide +kernel) (by decide +kernel)
theorem qX12_61 : zFg RX12 61 12 26 := ⟨RX12, TX12, 28, rfl, by decide, w1038, inG12⟩
theorem pX12_61 : zFp RX12 61 12 26 (.array .long) true := ⟨RX12, TX12, 28, tyX12, rfl, by decide, w1038, inG12, tyX12_ok, nmX12, rfl, rfl, fun _ => rfl⟩
theorem w1039 : (Cond.fieldLink "ButlerRemembersModel" (65 : Nat) "ButlerRemembersModel" "moved" "[J") ∈ tblG := tblG_at 1039 (by decide +kernel) (by decide +kernel)
theorem qX12_65 : zFg RX12 65 12 27 := ⟨RX12, TX12, 28, rfl, by decide, w1039, inG12⟩
theorem pX12_65 : zFp RX12 65 12 27 (.array .long) true := ⟨RX12, TX12, 28, tyX12, rfl, by decide, w1039, inG12, tyX12_ok, nmX12, rfl, rfl, fun _ => rfl⟩
theorem w1015 : (Cond.fieldLink "ButlerRemembersModel" (68 : Nat) "ButlerRemembersModel" "kept" "Z") ∈ tblG := tblG_at 1015 (by decide +kernel) (by decide +kernel)
theorem qX12_68 : zFg RX12 68 12 3 := ⟨RX12, TX12, 28, rfl, by decide, w1015, inG12⟩
theorem pX12_68 : zFp RX12 68 12 3 .boolean false := ⟨RX12, TX12, 28, tyX12, rfl, by decide, w1015, inG12, tyX12_ok, nmX12, rfl, rfl, fun q => by cases q⟩
theorem w1017 : (Cond.fieldLink "ButlerRemembersModel" (111 : Nat) "ButlerRemembersModel" "texted" "I") ∈ tblG := tblG_at 1017 (by decide +kernel) (by decide +kernel)
theorem qX12_111 : zFg RX12 111 12 5 := ⟨RX12, TX12, 28, rfl, by decide, w1017, inG12⟩
theorem pX12_111 : zFp RX12 111 12 5 .int false := ⟨RX12, TX12, 28, tyX12, rfl, by decide, w1017, inG12, tyX12_ok, nmX12, rfl, rfl, fun q => by cases q⟩
theorem w1024 : (Cond.fieldLink "ButlerRemembersModel" (115 : Nat) "ButlerRemembersModel" "well" "Z") ∈ tblG := tblG_at 1024 (by decide +kernel) (by decide +kernel)
theorem qX12_115 : zFg RX12 115 12 12 := ⟨RX12, TX12, 28, rfl, by decide, w1024, inG12⟩
theorem pX12_115 : zFp RX12 115 12 12 .boolean false := ⟨RX12, TX12, 28, tyX12, rfl, by decide, w1024, inG12, tyX12_ok, nmX12, rfl, rfl, fun q => by cases q⟩
theorem w1023 : (Cond.fieldLink "ButlerRemembersModel" (118 : Nat) "ButlerRemembersModel" "at" "I") ∈ tblG := tblG_at 1023 (by decide +kernel) (by decide +kernel)
theorem qX12_118 : zFg RX12 118 12 11 := ⟨RX12, TX12, 28, rfl, by decide, w1023, inG12⟩
theorem pX12_118 : zFp RX12 118 12 11 .int false := ⟨RX12, TX12, 28, tyX12, rfl, by decide, w1023, inG12, tyX12_ok, nmX12, rfl, rfl, fun q => by cases q⟩
theorem w1022 : (Cond.fieldLink "ButlerRemembersModel" (121 : Nat) "ButlerRemembersModel" "size" "I") ∈ tblG := tblG_at 1022 (by decide +kernel) (by decide +kernel)
theorem qX12_121 : zFg RX12 121 12 10 := ⟨RX12, TX12, 28, rfl, by decide, w1022, inG12⟩
theorem pX12_121 : zFp RX12 121 12 10 .int false := ⟨RX12, TX12, 28, tyX12, rfl, by decide, w1022, inG12, tyX12_ok, nmX12, rfl, rfl, fun q => by cases q⟩
theorem w1025 : (Cond.fieldLink "ButlerRemembersModel" (139 : Nat) "ButlerRemembersModel" "within" "I") ∈ tblG := tblG_at 1025 (by decide +kernel) (by decide +kernel)
theorem qX12_139 : zFg RX12 139 12 13 := ⟨RX12, TX12, 28, rfl, by decide, w1025, inG12⟩
theorem pX12_139 : zFp RX12 139 12 13 .int false := ⟨RX12, TX12, 28, tyX12, rfl, by decide, w1025, inG12, tyX12_ok, nmX12, rfl, rfl, fun q => by cases q⟩
theorem w1027 : (Cond.fieldLink "ButlerRemembersModel" (154 : Nat) "ButlerRemembersModel" "hours" "I") ∈ tblG := tblG_at 1027 (by decide +kernel) (by decide +kernel)
theorem qX12_154 : zFg RX12 154 12 15 := ⟨RX12, TX12, 28, rfl, by decide, w1027, inG12⟩
theorem pX12_154 : zFp RX12 154 12 15 .int false := ⟨RX12, TX12, 28, tyX12, rfl, by decide, w1027, inG12, tyX12_ok, nmX12, rfl, rfl, fun q => by cases q⟩
theorem w1026 : (Cond.fieldLink "ButlerRemembersModel" (157 : Nat) "ButlerRemembersModel" "sum" "I") ∈ tblG := tblG_at 1026 (by decide +kernel) (by decide +kernel)
theorem qX12_157 : zFg RX12 157 12 14 := ⟨RX12, TX12, 28, rfl, by decide, w1026, inG12⟩
theorem pX12_157 : zFp RX12 157 12 14 .int false := ⟨RX12, TX12, 28, tyX12, rfl, by decide, w1026, inG12, tyX12_ok, nmX12, rfl, rfl, fun q => by cases q⟩
theorem w1020 : (Cond.fieldLink "ButlerRemembersModel" (169 : Nat) "ButlerRemembersModel" "ruled" "I") ∈ tblG := tblG_at 1020 (by decide +kernel) (by decide +kernel)
theorem qX12_169 : zFg RX12 169 12 8 := ⟨RX12, TX12, 28, rfl, by decide, w1020, inG12⟩
theorem pX12_169 : zFp RX12 169 12 8 .int false := ⟨RX12, TX12, 28, tyX12, rfl, by decide, w1020, inG12, tyX12_ok, nmX12, rfl, rfl, fun q => by cases q⟩
theorem w1035 : (Cond.fieldLink "ButlerRemembersModel" (247 : Nat) "ButlerRemembersModel" "ran" "I") ∈ tblG := tblG_at 1035 (by decide +kernel) (by decide +kernel)
theorem qX12_247 : zFg RX12 247 12 23 := ⟨RX12, TX12, 28, rfl, by decide, w1035, inG12⟩
theorem pX12_247 : zFp RX12 247 12 23 .int false := ⟨RX12, TX12, 28, tyX12, rfl, by decide, w1035, inG12, tyX12_ok, nmX12, rfl, rfl, fun q => by cases q⟩
theorem w279 : (Cond.fieldLink "ButlerRemembers$Daughter" (17 : Nat) "ButlerRemembers$Turn" "number" "I") ∈ tblG := tblG_at 279 (by decide +kernel) (by decide +kernel)
theorem qX2_17 : zFg RX2 17 10 0 := ⟨RX10, TX10, 4, rfl, by decide, w279, inG10⟩
theorem w240 : (Cond.fieldLink "ButlerRemembers$House" (11 : Nat) "ButlerRemembers$House" "hours" "I") ∈ tblG := tblG_at 240 (by decide +kernel) (by decide +kernel)
theorem qX5_11 : zFg RX5 11 5 0 := ⟨RX5, TX5, 9, rfl, by decide, w240, inG5⟩
theorem pX5_11 : zFp RX5 11 5 0 .int false := ⟨RX5, TX5, 9, tyX5, rfl, by decide, w240, inG5, tyX5_ok, nmX5, rfl, rfl, fun q => by cases q⟩
theorem w242 : (Cond.fieldLink "ButlerRemembers$House" (15 : Nat) "ButlerRemembers$House" "steps" "[I") ∈ tblG := tblG_at 242 (by decide +kernel) (by decide +kernel)
theorem qX5_15 : zFg RX5 15 5 1 := ⟨RX5, TX5, 9, rfl, by decide, w242, inG5⟩
theorem pX5_15 : zFp RX5 15 5 1 (.array .int) true := ⟨RX5, TX5, 9, tyX5, rfl, by decide, w242, inG5, tyX5_ok, nmX5, rfl, rfl, fun _ => rfl⟩
theorem w243 : (Cond.fieldLink "ButlerRemembers$House" (19 : Nat) "ButlerRemembers$House" "stepCount" "I") ∈ tblG := tblG_at 243 (by decide +kernel) (by decide +kernel)
theorem qX5_19 : zFg RX5 19 5 2 := ⟨RX5, TX5, 9, rfl, by decide, w243, inG5⟩
theorem pX5_19 : zFp RX5 19 5 2 .int false := ⟨RX5, TX5, 9, tyX5, rfl, by decide, w243, inG5, tyX5_ok, nmX5, rfl, rfl, fun q => by cases q⟩
theorem w244 : (Cond.fieldLink "ButlerRemembers$House" (22 : Nat) "ButlerRemembers$House" "stack" "[I") ∈ tblG := tblG_at 244 (by decide +kernel) (by decide +kernel)
theorem qX5_22 : zFg RX5 22 5 3 := ⟨RX5, TX5, 9, rfl, by decide, w244, inG5⟩
theorem pX5_22 : zFp RX5 22 5 3 (.array .int) true := ⟨RX5, TX5, 9, tyX5, rfl, by decide, w244, inG5, tyX5_ok, nmX5, rfl, rfl, fun _ => rfl⟩
theorem w245 : (Cond.fieldLink "ButlerRemembers$House" (25 : Nat) "ButlerRemembers$House" "top" "I") ∈ tblG := tblG_at 245 (by decide +kernel) (by decide +kernel)
theorem qX5_25 : zFg RX5 25 5 4 := ⟨RX5, TX5, 9, rfl, by decide, w245, inG5⟩
theorem pX5_25 : zFp RX5 25 5 4 .int false := ⟨RX5, TX5, 9, tyX5, rfl, by decide, w245, inG5, tyX5_ok, nmX5, rfl, rfl, fun q => by cases q⟩
theorem w246 : (Cond.fieldLink "ButlerRemembers$House" (28 : Nat) "ButlerRemembers$House" "bytes" "[B") ∈ tblG := tblG_at 246 (by decide +kernel) (by decide +kernel)
theorem qX5_28 : zFg RX5 28 5 5 := ⟨RX5, TX5, 9, rfl, by decide, w246, inG5⟩
theorem pX5_28 : zFp RX5 28 5 5 (.array .byte) false := ⟨RX5, TX5, 9, tyX5, rfl, by decide, w246, inG5, tyX5_ok, nmX5, rfl, rfl, fun q => by cases q⟩
theorem w247 : (Cond.fieldLink "ButlerRemembers$House" (32 : Nat) "ButlerRemembers$House" "length" "I") ∈ tblG := tblG_at 247 (by decide +kernel) (by decide +kernel)
theorem qX5_32 : zFg RX5 32 5 6 := ⟨RX5, TX5, 9, rfl, by decide, w247, inG5⟩
theorem pX5_32 : zFp RX5 32 5 6 .int false := ⟨RX5, TX5, 9, tyX5, rfl, by decide, w247, inG5, tyX5_ok, nmX5, rfl, rfl, fun q => by cases q⟩
theorem w248 : (Cond.fieldLink "ButlerRemembers$House" (35 : Nat) "ButlerRemembers$House" "place" "I") ∈ tblG := tblG_at 248 (by decide +kernel) (by decide +kernel)
theorem qX5_35 : zFg RX5 35 5 7 := ⟨RX5, TX5, 9, rfl, by decide, w248, inG5⟩
theorem pX5_35 : zFp RX5 35 5 7 .int false := ⟨RX5, TX5, 9, tyX5, rfl, by decide, w248, inG5, tyX5_ok, nmX5, rfl, rfl, fun q => by cases q⟩
theorem w249 : (Cond.fieldLink "ButlerRemembers$House" (38 : Nat) "ButlerRemembers$House" "number" "I") ∈ tblG := tblG_at 249 (by decide +kernel) (by decide +kernel)
theorem qX5_38 : zFg RX5 38 5 8 := ⟨RX5, TX5, 9, rfl, by decide, w249, inG5⟩
theorem pX5_38 : zFp RX5 38 5 8 .int false := ⟨RX5, TX5, 9, tyX5, rfl, by decide, w249, inG5, tyX5_ok, nmX5, rfl, rfl, fun q => by cases q⟩
theorem w106 : (Cond.fieldLink "ButlerRemembers$Household" (9 : Nat) "ButlerRemembers$Household" "masterCount" "I") ∈ tblG := tblG_at 106 (by decide +kernel) (by decide +kernel)
theorem qX6_9 : zFg RX6 9 6 0 := ⟨RX6, TX6, 20, rfl, by decide, w106, inG6⟩
theorem pX6_9 : zFp RX6 9 6 0 .int false := ⟨RX6, TX6, 20, tyX6, rfl, by decide, w106, inG6, tyX6_ok, nmX6, rfl, rfl, fun q => by cases q⟩
theorem w108 : (Cond.fieldLink "ButlerRemembers$Household" (15 : Nat) "ButlerRemembers$Household" "kinds" "[I") ∈ tblG := tblG_at 108 (by decide +kernel) (by decide +kernel)
theorem qX6_15 : zFg RX6 15 6 1 := ⟨RX6, TX6, 20, rfl, by decide, w108, inG6⟩
theorem pX6_15 : zFp RX6 15 6 1 (.array .int) true := ⟨RX6, TX6, 20, tyX6, rfl, by decide, w108, inG6, tyX6_ok, nmX6, rfl, rfl, fun _ => rfl⟩
theorem w110 : (Cond.fieldLink "ButlerRemembers$Household" (19 : Nat) "ButlerRemembers$Household" "vs" "[I") ∈ tblG := tblG_at 110 (by decide +kernel) (by decide +kernel)
theorem qX6_19 : zFg RX6 19 6 2 := ⟨RX6, TX6, 20, rfl, by decide, w110, inG6⟩
theorem pX6_19 : zFp RX6 19 6 2 (.array .int) true := ⟨RX6, TX6, 20, tyX6, rfl, by decide, w110, inG6, tyX6_ok, nmX6, rfl, rfl, fun _ => rfl⟩
theorem w112 : (Cond.fieldLink "ButlerRemembers$Household" (22 : Nat) "ButlerRemembers$Household" "minds" "[I") ∈ tblG := tblG_at 112 (by decide +kernel) (by decide +kernel)
theorem qX6_22 : zFg RX6 22 6 3 := ⟨RX6, TX6, 20, rfl, by decide, w112, inG6⟩
theorem pX6_22 : zFp RX6 22 6 3 (.array .int) true := ⟨RX6, TX6, 20, tyX6, rfl, by decide, w112, inG6, tyX6_ok, nmX6, rfl, rfl, fun _ => rfl⟩
theorem w114 : (Cond.fieldLink "ButlerRemembers$Household" (25 : Nat) "ButlerRemembers$Household" "rows" "[I") ∈ tblG := tblG_at 114 (by decide +kernel) (by decide +kernel)
theorem qX6_25 : zFg RX6 25 6 4 := ⟨RX6, TX6, 20, rfl, by decide, w114, inG6⟩
theorem pX6_25 : zFp RX6 25 6 4 (.array .int) true := ⟨RX6, TX6, 20, tyX6, rfl, by decide, w114, inG6, tyX6_ok, nmX6, rfl, rfl, fun _ => rfl⟩
theorem w116 : (Cond.fieldLink "ButlerRemembers$Household" (28 : Nat) "ButlerRemembers$Household" "deedCount" "I") ∈ tblG := tblG_at 116 (by decide +kernel) (by decide +kernel)
theorem qX6_28 : zFg RX6 28 6 5 := ⟨RX6, TX6, 20, rfl, by decide, w116, inG6⟩
theorem pX6_28 : zFp RX6 28 6 5 .int false := ⟨RX6, TX6, 20, tyX6, rfl, by decide, w116, inG6, tyX6_ok, nmX6, rfl, rfl, fun q => by cases q⟩
theorem w118 : (Cond.fieldLink "ButlerRemembers$Household" (31 : Nat) "ButlerRemembers$Household" "deedMasters" "[I") ∈ tblG := tblG_at 118 (by decide +kernel) (by decide +kernel)
theorem qX6_31 : zFg RX6 31 6 6 := ⟨RX6, TX6, 20, rfl, by decide, w118, inG6⟩
theorem pX6_31 : zFp RX6 31 6 6 (.array .int) true := ⟨RX6, TX6, 20, tyX6, rfl, by decide, w118, inG6, tyX6_ok, nmX6, rfl, rfl, fun _ => rfl⟩
theorem w119 : (Cond.fieldLink "ButlerRemembers$Household" (34 : Nat) "ButlerRemembers$Household" "deedFacts" "[I") ∈ tblG := tblG_at 119 (by decide +kernel) (by decide +kernel)
theorem qX6_34 : zFg RX6 34 6 7 := ⟨RX6, TX6, 20, rfl, by decide, w119, inG6⟩
theorem pX6_34 : zFp RX6 34 6 7 (.array .int) true := ⟨RX6, TX6, 20, tyX6, rfl, by decide, w119, inG6, tyX6_ok, nmX6, rfl, rfl, fun _ => rfl⟩
theorem w120 : (Cond.fieldLink "ButlerRemembers$Household" (37 : Nat) "ButlerRemembers$Household" "deedDues" "[I") ∈ tblG := tblG_at 120 (by decide +kernel) (by decide +kernel)
theorem qX6_37 : zFg RX6 37 6 8 := ⟨RX6, TX6, 20, rfl, by decide, w120, inG6⟩
theorem pX6_37 : zFp RX6 37 6 8 (.array .int) true := ⟨RX6, TX6, 20, tyX6, rfl, by decide, w120, inG6, tyX6_ok, nmX6, rfl, rfl, fun _ => rfl⟩
theorem w121 : (Cond.fieldLink "ButlerRemembers$Household" (40 : Nat) "ButlerRemembers$Household" "footmanCount" "I") ∈ tblG := tblG_at 121 (by decide +kernel) (by decide +kernel)
theorem qX6_40 : zFg RX6 40 6 9 := ⟨RX6, TX6, 20, rfl, by decide, w121, inG6⟩
theorem pX6_40 : zFp RX6 40 6 9 .int false := ⟨RX6, TX6, 20, tyX6, rfl, by decide, w121, inG6, tyX6_ok, nmX6, rfl, rfl, fun q => by cases q⟩
theorem w123 : (Cond.fieldLink "ButlerRemembers$Household" (43 : Nat) "ButlerRemembers$Household" "holds" "[I") ∈ tblG := tblG_at 123 (by decide +kernel) (by decide +kernel)
theorem qX6_43 : zFg RX6 43 6 10 := ⟨RX6, TX6, 20, rfl, by decide, w123, inG6⟩
theorem pX6_43 : zFp RX6 43 6 10 (.array .int) true := ⟨RX6, TX6, 20, tyX6, rfl, by decide, w123, inG6, tyX6_ok, nmX6, rfl, rfl, fun _ => rfl⟩
theorem w124 : (Cond.fieldLink "ButlerRemembers$Household" (46 : Nat) "ButlerRemembers$Household" "outs" "I") ∈ tblG := tblG_at 124 (by decide +kernel) (by decide +kernel)
theorem qX6_46 : zFg RX6 46 6 11 := ⟨RX6, TX6, 20, rfl, by decide, w124, inG6⟩
theorem pX6_46 : zFp RX6 46 6 11 .int false := ⟨RX6, TX6, 20, tyX6, rfl, by decide, w124, inG6, tyX6_ok, nmX6, rfl, rfl, fun q => by cases q⟩
theorem w126 : (Cond.fieldLink "ButlerRemembers$Household" (49 : Nat) "ButlerRemembers$Household" "day" "I") ∈ tblG := tblG_at 126 (by decide +kernel) (by decide +kernel)
theorem qX6_49 : zFg RX6 49 6 12 := ⟨RX6, TX6, 20, rfl, by decide, w126, inG6⟩
theorem pX6_49 : zFp RX6 49 6 12 .int false := ⟨RX6, TX6, 20, tyX6, rfl, by decide, w126, inG6, tyX6_ok, nmX6, rfl, rfl, fun q => by cases q⟩
theorem w128 : (Cond.fieldLink "ButlerRemembers$Household" (52 : Nat) "ButlerRemembers$Household" "held" "I") ∈ tblG := tblG_at 128 (by decide +kernel) (by decide +kernel)
theorem qX6_52 : zFg RX6 52 6 13 := ⟨RX6, TX6, 20, rfl, by decide, w128, inG6⟩
theorem pX6_52 : zFp RX6 52 6 13 .int false := ⟨RX6, TX6, 20, tyX6, rfl, by decide, w128, inG6, tyX6_ok, nmX6, rfl, rfl, fun q => by cases q⟩
theorem w130 : (Cond.fieldLink "ButlerRemembers$Household" (55 : Nat) "ButlerRemembers$Household" "seenCount" "I") ∈ tblG := tblG_at 130 (by decide +kernel) (by decide +kernel)
theorem qX6_55 : zFg RX6 55 6 14 := ⟨RX6, TX6, 20, rfl, by decide, w130, inG6⟩
theorem pX6_55 : zFp RX6 55 6 14 .int false := ⟨RX6, TX6, 20, tyX6, rfl, by decide, w130, inG6, tyX6_ok, nmX6, rfl, rfl, fun q => by cases q⟩
theorem w132 : (Cond.fieldLink "ButlerRemembers$Household" (60 : Nat) "ButlerRemembers$Household" "seenRows" "[[I") ∈ tblG := tblG_at 132 (by decide +kernel) (by decide +kernel)
theorem qX6_60 : zFg RX6 60 6 15 := ⟨RX6, TX6, 20, rfl, by decide, w132, inG6⟩
theorem pX6_60 : zFp RX6 60 6 15 (.array (.array .int)) true := ⟨RX6, TX6, 20, tyX6, rfl, by decide, w132, inG6, tyX6_ok, nmX6, rfl, rfl, fun _ => rfl⟩
theorem w134 : (Cond.fieldLink "ButlerRemembers$Household" (63 : Nat) "ButlerRemembers$Household" "planCount" "I") ∈ tblG := tblG_at 134 (by decide +kernel) (by decide +kernel)
theorem qX6_63 : zFg RX6 63 6 16 := ⟨RX6, TX6, 20, rfl, by decide, w134, inG6⟩
theorem pX6_63 : zFp RX6 63 6 16 .int false := ⟨RX6, TX6, 20, tyX6, rfl, by decide, w134, inG6, tyX6_ok, nmX6, rfl, rfl, fun q => by cases q⟩
theorem w136 : (Cond.fieldLink "ButlerRemembers$Household" (66 : Nat) "ButlerRemembers$Household" "planRows" "[[I") ∈ tblG := tblG_at 136 (by decide +kernel) (by decide +kernel)
theorem qX6_66 : zFg RX6 66 6 17 := ⟨RX6, TX6, 20, rfl, by decide, w136, inG6⟩
theorem pX6_66 : zFp RX6 66 6 17 (.array (.array .int)) true := ⟨RX6, TX6, 20, tyX6, rfl, by decide, w136, inG6, tyX6_ok, nmX6, rfl, rfl, fun _ => rfl⟩
theorem w138 : (Cond.fieldLink "ButlerRemembers$Household" (69 : Nat) "ButlerRemembers$Household" "bookCount" "I") ∈ tblG := tblG_at 138 (by decide +kernel) (by decide +kernel)
theorem qX6_69 : zFg RX6 69 6 18 := ⟨RX6, TX6, 20, rfl, by decide, w138, inG6⟩
theorem pX6_69 : zFp RX6 69 6 18 .int false := ⟨RX6, TX6, 20, tyX6, rfl, by decide, w138, inG6, tyX6_ok, nmX6, rfl, rfl, fun q => by cases q⟩
theorem w140 : (Cond.fieldLink "ButlerRemembers$Household" (72 : Nat) "ButlerRemembers$Household" "bookRows" "[[I") ∈ tblG := tblG_at 140 (by decide +kernel) (by decide +kernel)
theorem qX6_72 : zFg RX6 72 6 19 := ⟨RX6, TX6, 20, rfl, by decide, w140, inG6⟩
theorem pX6_72 : zFp RX6 72 6 19 (.array (.array .int)) true := ⟨RX6, TX6, 20, tyX6, rfl, by decide, w140, inG6, tyX6_ok, nmX6, rfl, rfl, fun _ => rfl⟩
theorem w278 : (Cond.fieldLink "ButlerRemembers$Master" (13 : Nat) "ButlerRemembers$Turn" "number" "I") ∈ tblG := tblG_at 278 (by decide +kernel) (by decide +kernel)
theorem qX7_13 : zFg RX7 13 10 0 := ⟨RX10, TX10, 4, rfl, by decide, w278, inG10⟩
theorem w283 : (Cond.fieldLink "ButlerRemembers$Master" (23 : Nat) "ButlerRemembers$Turn" "v" "I") ∈ tblG := tblG_at 283 (by decide +kernel) (by decide +kernel)
theorem qX7_23 : zFg RX7 23 10 1 := ⟨RX10, TX10, 4, rfl, by decide, w283, inG10⟩
theorem w305 : (Cond.fieldLink "ButlerRemembers$Tape" (11 : Nat) "ButlerRemembers$Tape" "sort" "I") ∈ tblG := tblG_at 305 (by decide +kernel) (by decide +kernel)
theorem qX8_11 : zFg RX8 11 8 0 := ⟨RX8, TX8, 3, rfl, by decide, w305, inG8⟩
theorem pX8_11 : zFp RX8 11 8 0 .int false := ⟨RX8, TX8, 3, tyX8, rfl, by decide, w305, inG8, tyX8_ok, nmX8, rfl, rfl, fun q => by cases q⟩
theorem w307 : (Cond.fieldLink "ButlerRemembers$Tape" (15 : Nat) "ButlerRemembers$Tape" "size" "I") ∈ tblG := tblG_at 307 (by decide +kernel) (by decide +kernel)
theorem qX8_15 : zFg RX8 15 8 1 := ⟨RX8, TX8, 3, rfl, by decide, w307, inG8⟩
theorem pX8_15 : zFp RX8 15 8 1 .int false := ⟨RX8, TX8, 3, tyX8, rfl, by decide, w307, inG8, tyX8_ok, nmX8, rfl, rfl, fun q => by cases q⟩
theorem w308 : (Cond.fieldLink "ButlerRemembers$Tape" (18 : Nat) "ButlerRemembers$Tape" "items" "[J") ∈ tblG := tblG_at 308 (by decide +kernel) (by decide +kernel)
theorem qX8_18 : zFg RX8 18 8 2 := ⟨RX8, TX8, 3, rfl, by decide, w308, inG8⟩
theorem pX8_18 : zFp RX8 18 8 2 (.array .long) true := ⟨RX8, TX8, 3, tyX8, rfl, by decide, w308, inG8, tyX8_ok, nmX8, rfl, rfl, fun _ => rfl⟩
theorem w282 : (Cond.fieldLink "ButlerRemembers$Told" (24 : Nat) "ButlerRemembers$Turn" "v" "I") ∈ tblG := tblG_at 282 (by decide +kernel) (by decide +kernel)
theorem qX9_24 : zFg RX9 24 10 1 := ⟨RX10, TX10, 4, rfl, by decide, w282, inG10⟩
theorem w564 : (Cond.methodLink "java/lang/String" (495 : Nat) ({ cls := "java/lang/StringLatin1", name := "charAt", desc := "([BI)C" } : Jvm.MethodName)) ∈ tblG := tblG_at 564 (by decide +kernel) (by decide +kernel)
theorem w565 : (Cond.static ({ cls := "java/lang/StringLatin1", name := "charAt", desc := "([BI)C" } : Jvm.MethodName)) ∈ tblG := tblG_at 565 (by decide +kernel) (by decide +kernel)
theorem w84 : (Cond.initialized "java/lang/StringLatin1") ∈ tblG := tblG_at 84 (by decide +kernel) (by decide +kernel)
theorem w566 : (Cond.code ({ cls := "java/lang/StringLatin1", name := "charAt", desc := "([BI)C" } : Jvm.MethodName) prog_19_method_2_code (2 : Nat) (Option.some Jvm.ClassFile.FieldType.char)) ∈ tblG := tblG_at 566 (by decide +kernel) (by decide +kernel)
theorem mJ0_495 : zKS RJ0 495 yJ1_charAt_3b067 cJ1_charAt_3b067 2 (some .char) 2 := ⟨w564, w565, w84, w566, by decide, by decide, by decide, by decide +kernel⟩
theorem w575 : (Cond.methodLink "java/lang/String" (498 : Nat) ({ cls := "java/lang/StringUTF16", name := "charAt", desc := "([BI)C" } : Jvm.MethodName)) ∈ tblG := tblG_at 575 (by decide +kernel) (by decide +kernel)
theorem w576 : (Cond.static ({ cls := "java/lang/StringUTF16", name := "charAt", desc := "([BI)C" } : Jvm.MethodName)) ∈ tblG := tblG_at 576 (by decide +kernel) (by decide +kernel)
theorem w86 : (Cond.initialized "java/lang/StringUTF16") ∈ tblG := tblG_at 86 (by decide +kernel) (by decide +kernel)
theorem w577 : (Cond.code ({ cls := "java/lang/StringUTF16", name := "charAt", desc := "([BI)C" } : Jvm.MethodName) prog_20_method_83_code (2 : Nat) (Option.some Jvm.ClassFile.FieldType.char)) ∈ tblG := tblG_at 577 (by decide +kernel) (by decide +kernel)
theorem mJ0_498 : zKS RJ0 498 yJ2_charAt_3b067 cJ2_charAt_3b067 2 (some .char) 2 := ⟨w575, w576, w86, w577, by decide, by decide, by decide, by decide +kernel⟩
theorem w630 : (Cond.methodLink "java/lang/String" (637 : Nat) ({ cls := "java/lang/StringLatin1", name := "indexOf", desc := "([BIII)I" } : Jvm.MethodName)) ∈ tblG := tblG_at 630 (by decide +kernel) (by decide +kernel)
theorem w631 : (Cond.static ({ cls := "java/lang/StringLatin1", name := "indexOf", desc := "([BIII)I" } : Jvm.MethodName)) ∈ tblG := tblG_at 631 (by decide +kernel) (by decide +kernel)
theorem w632 : (Cond.code ({ cls := "java/lang/StringLatin1", name := "indexOf", desc := "([BIII)I" } : Jvm.MethodName) prog_19_method_22_code (4 : Nat) (Option.some Jvm.ClassFile.FieldType.int)) ∈ tblG := tblG_at 632 (by decide +kernel) (by decide +kernel)
theorem mJ0_637 : zKS RJ0 637 yJ1_indexOf_4cfef cJ1_indexOf_4cfef 4 (some .int) 4 := ⟨w630, w631, w84, w632, by decide, by decide, by decide, by decide +kernel⟩
theorem w643 : (Cond.methodLink "java/lang/String" (640 : Nat) ({ cls := "java/lang/StringUTF16", name := "indexOf", desc := "([BIII)I" } : Jvm.MethodName)) ∈ tblG := tblG_at 643 (by decide +kernel) (by decide +kernel)
theorem w644 : (Cond.static ({ cls := "java/lang/StringUTF16", name := "indexOf", desc := "([BIII)I" } : Jvm.MethodName)) ∈ tblG := tblG_at 644 (by decide +kernel) (by decide +kernel)
theorem w645 : (Cond.code ({ cls := "java/lang/StringUTF16", name := "indexOf", desc := "([BIII)I" } : Jvm.MethodName) prog_20_method_40_code (4 : Nat) (Option.some Jvm.ClassFile.FieldType.int)) ∈ tblG := tblG_at 645 (by decide +kernel) (by decide +kernel)
theorem mJ0_640 : zKS RJ0 640 yJ2_indexOf_4cfef cJ2_indexOf_4cfef 4 (some .int) 4 := ⟨w643, w644, w86, w645, by decide, by decide, by decide, by decide +kernel⟩
theorem w572 : (Cond.methodLink "java/lang/String" (1059 : Nat) ({ cls := "jdk/internal/util/Preconditions", name := "checkIndex", desc := "(IILjava/util/function/BiFunction;)I" } : Jvm.MethodName)) ∈ tblG := tblG_at 572 (by decide +kernel) (by decide +kernel)
theorem w573 : (Cond.static ({ cls := "jdk/internal/util/Preconditions", name := "checkIndex", desc := "(IILjava/util/function/BiFunction;)I" } : Jvm.MethodName)) ∈ tblG := tblG_at 573 (by decide +kernel) (by decide +kernel)
theorem w85 : (Cond.initialized "jdk/internal/util/Preconditions") ∈ tblG := tblG_at 85 (by decide +kernel) (by decide +kernel)
theorem w574 : (Cond.code ({ cls := "jdk/internal/util/Preconditions", name := "checkIndex", desc := "(IILjava/util/function/BiFunction;)I" } : Jvm.MethodName) prog_23_method_11_code (3 : Nat) (Option.some Jvm.ClassFile.FieldType.int)) ∈ tblG := tblG_at 574 (by decide +kernel) (by decide +kernel)
theorem mJ0_1059 : zKS RJ0 1059 yJ3_checkIndex_8e157 cJ3_checkIndex_8e157 3 (some .int) 3 := ⟨w572, w573, w85, w574, by decide, by decide, by decide, by decide +kernel⟩
theorem w658 : (Cond.methodLink "java/lang/String" (1062 : Nat) ({ cls := "jdk/internal/util/Preconditions", name := "checkFromToIndex", desc := "(IIILjava/util/function/BiFunction;)I" } : Jvm.MethodName)) ∈ tblG := tblG_at 658 (by decide +kernel) (by decide +kernel)
theorem w659 : (Cond.static ({ cls := "jdk/internal/util/Preconditions", name := "checkFromToIndex", desc := "(IIILjava/util/function/BiFunction;)I" } : Jvm.MethodName)) ∈ tblG := tblG_at 659 (by decide +kernel) (by decide +kernel)
theorem w660 : (Cond.code ({ cls := "jdk/internal/util/Preconditions", name := "checkFromToIndex", desc := "(IIILjava/util/function/BiFunction;)I" } : Jvm.MethodName) prog_23_method_12_code (4 : Nat) (Option.some Jvm.ClassFile.FieldType.int)) ∈ tblG := tblG_at 660 (by decide +kernel) (by decide +kernel)
theorem mJ0_1062 : zKS RJ0 1062 yJ3_checkFromToIndex_8c36e cJ3_checkFromToIndex_8c36e 4 (some .int) 4 := ⟨w658, w659, w85, w660, by decide, by decide, by decide, by decide +kernel⟩
theorem w567 : (Cond.methodLink "java/lang/StringLatin1" (9 : Nat) ({ cls := "java/lang/String", name := "checkIndex", desc := "(II)V" } : Jvm.MethodName)) ∈ tblG := tblG_at 567 (by decide +kernel) (by decide +kernel)
theorem w568 : (Cond.static ({ cls := "java/lang/String", name := "checkIndex", desc := "(II)V" } : Jvm.MethodName)) ∈ tblG := tblG_at 568 (by decide +kernel) (by decide +kernel)
theorem w83 : (Cond.initialized "java/lang/String") ∈ tblG := tblG_at 83 (by decide +kernel) (by decide +kernel)
theorem w569 : (Cond.code ({ cls := "java/lang/String", name := "checkIndex", desc := "(II)V" } : Jvm.MethodName) prog_18_method_155_code (2 : Nat) (Option.none : Option Jvm.ClassFile.FieldType)) ∈ tblG := tblG_at 569 (by decide +kernel) (by decide +kernel)
theorem mJ1_9 : zKS RJ1 9 yJ0_checkIndex_df160 cJ0_checkIndex_df160 2 none 2 := ⟨w567, w568, w83, w569, by decide, by decide, by decide, by decide +kernel⟩
theorem w639 : (Cond.methodLink "java/lang/StringLatin1" (38 : Nat) ({ cls := "java/lang/Math", name := "min", desc := "(II)I" } : Jvm.MethodName)) ∈ tblG := tblG_at 639 (by decide +kernel) (by decide +kernel)
theorem w531 : (Cond.static ({ cls := "java/lang/Math", name := "min", desc := "(II)I" } : Jvm.MethodName)) ∈ tblG := tblG_at 531 (by decide +kernel) (by decide +kernel)
theorem w82 : (Cond.initialized "java/lang/Math") ∈ tblG := tblG_at 82 (by decide +kernel) (by decide +kernel)
theorem w532 : (Cond.code ({ cls := "java/lang/Math", name := "min", desc := "(II)I" } : Jvm.MethodName) prog_17_method_69_code (2 : Nat) (Option.some Jvm.ClassFile.FieldType.int)) ∈ tblG := tblG_at 532 (by decide +kernel) (by decide +kernel)
theorem mJ1_38 : zKS RJ1 38 yJ9_min_7cf53 cJ9_min_7cf53 2 (some .int) 2 := ⟨w639, w531, w82, w532, by decide, by decide, by decide, by decide +kernel⟩
theorem w633 : (Cond.methodLink "java/lang/StringLatin1" (88 : Nat) ({ cls := "java/lang/StringLatin1", name := "canEncode", desc := "(I)Z" } : Jvm.MethodName)) ∈ tblG := tblG_at 633 (by decide +kernel) (by decide +kernel)
theorem w634 : (Cond.static ({ cls := "java/lang/StringLatin1", name := "canEncode", desc := "(I)Z" } : Jvm.MethodName)) ∈ tblG := tblG_at 634 (by decide +kernel) (by decide +kernel)
theorem w635 : (Cond.code ({ cls := "java/lang/StringLatin1", name := "canEncode", desc := "(I)Z" } : Jvm.MethodName) prog_19_method_4_code (1 : Nat) (Option.some Jvm.ClassFile.FieldType.boolean)) ∈ tblG := tblG_at 635 (by decide +kernel) (by decide +kernel)
theorem mJ1_88 : zKS RJ1 88 yJ1_canEncode_9a6ad cJ1_canEncode_9a6ad 1 (some .boolean) 1 := ⟨w633, w634, w84, w635, by decide, by decide, by decide, by decide +kernel⟩
theorem w636 : (Cond.methodLink "java/lang/StringLatin1" (92 : Nat) ({ cls := "java/lang/Math", name := "max", desc := "(II)I" } : Jvm.MethodName)) ∈ tblG := tblG_at 636 (by decide +kernel) (by decide +kernel)
theorem w637 : (Cond.static ({ cls := "java/lang/Math", name := "max", desc := "(II)I" } : Jvm.MethodName)) ∈ tblG := tblG_at 637 (by decide +kernel) (by decide +kernel)
theorem w638 : (Cond.code ({ cls := "java/lang/Math", name := "max", desc := "(II)I" } : Jvm.MethodName) prog_17_method_65_code (2 : Nat) (Option.some Jvm.ClassFile.FieldType.int)) ∈ tblG := tblG_at 638 (by decide +kernel) (by decide +kernel)
theorem mJ1_92 : zKS RJ1 92 yJ9_max_7cf53 cJ9_max_7cf53 2 (some .int) 2 := ⟨w636, w637, w82, w638, by decide, by decide, by decide, by decide +kernel⟩
theorem w640 : (Cond.methodLink "java/lang/StringLatin1" (95 : Nat) ({ cls := "java/lang/StringLatin1", name := "indexOfChar", desc := "([BIII)I" } : Jvm.MethodName)) ∈ tblG := tblG_at 640 (by decide +kernel) (by decide +kernel)
theorem w641 : (Cond.static ({ cls := "java/lang/StringLatin1", name := "indexOfChar", desc := "([BIII)I" } : Jvm.MethodName)) ∈ tblG := tblG_at 641 (by decide +kernel) (by decide +kernel)
theorem w642 : (Cond.code ({ cls := "java/lang/StringLatin1", name := "indexOfChar", desc := "([BIII)I" } : Jvm.MethodName) prog_19_method_23_code (6 : Nat) (Option.some Jvm.ClassFile.FieldType.int)) ∈ tblG := tblG_at 642 (by decide +kernel) (by decide +kernel)
theorem mJ1_95 : zKS RJ1 95 yJ1_indexOfChar_4cfef cJ1_indexOfChar_4cfef 6 (some .int) 4 := ⟨w640, w641, w84, w642, by decide, by decide, by decide, by decide +kernel⟩
theorem w581 : (Cond.methodLink "java/lang/StringUTF16" (48 : Nat) ({ cls := "java/lang/StringUTF16", name := "length", desc := "([B)I" } : Jvm.MethodName)) ∈ tblG := tblG_at 581 (by decide +kernel) (by decide +kernel)
theorem w582 : (Cond.static ({ cls := "java/lang/StringUTF16", name := "length", desc := "([B)I" } : Jvm.MethodName)) ∈ tblG := tblG_at 582 (by decide +kernel) (by decide +kernel)
theorem w583 : (Cond.code ({ cls := "java/lang/StringUTF16", name := "length", desc := "([B)I" } : Jvm.MethodName) prog_20_method_6_code (1 : Nat) (Option.some Jvm.ClassFile.FieldType.int)) ∈ tblG := tblG_at 583 (by decide +kernel) (by decide +kernel)
theorem mJ2_48 : zKS RJ2 48 yJ2_length_9d52b cJ2_length_9d52b 1 (some .int) 1 := ⟨w581, w582, w86, w583, by decide, by decide, by decide, by decide +kernel⟩
theorem w578 : (Cond.methodLink "java/lang/StringUTF16" (67 : Nat) ({ cls := "java/lang/StringUTF16", name := "checkIndex", desc := "(I[B)V" } : Jvm.MethodName)) ∈ tblG := tblG_at 578 (by decide +kernel) (by decide +kernel)
theorem w579 : (Cond.static ({ cls := "java/lang/StringUTF16", name := "checkIndex", desc := "(I[B)V" } : Jvm.MethodName)) ∈ tblG := tblG_at 579 (by decide +kernel) (by decide +kernel)
theorem w580 : (Cond.code ({ cls := "java/lang/StringUTF16", name := "checkIndex", desc := "(I[B)V" } : Jvm.MethodName) prog_20_method_91_code (2 : Nat) (Option.none : Option Jvm.ClassFile.FieldType)) ∈ tblG := tblG_at 580 (by decide +kernel) (by decide +kernel)
theorem mJ2_67 : zKS RJ2 67 yJ2_checkIndex_2214a cJ2_checkIndex_2214a 2 none 2 := ⟨w578, w579, w86, w580, by decide, by decide, by decide, by decide +kernel⟩
theorem w585 : (Cond.methodLink "java/lang/StringUTF16" (71 : Nat) ({ cls := "java/lang/StringUTF16", name := "getChar", desc := "([BI)C" } : Jvm.MethodName)) ∈ tblG := tblG_at 585 (by decide +kernel) (by decide +kernel)
theorem w586 : (Cond.static ({ cls := "java/lang/StringUTF16", name := "getChar", desc := "([BI)C" } : Jvm.MethodName)) ∈ tblG := tblG_at 586 (by decide +kernel) (by decide +kernel)
theorem w587 : (Cond.code ({ cls := "java/lang/StringUTF16", name := "getChar", desc := "([BI)C" } : Jvm.MethodName) prog_20_method_5_code (2 : Nat) (Option.some Jvm.ClassFile.FieldType.char)) ∈ tblG := tblG_at 587 (by decide +kernel) (by decide +kernel)
theorem mJ2_71 : zKS RJ2 71 yJ2_getChar_3b067 cJ2_getChar_3b067 2 (some .char) 2 := ⟨w585, w586, w86, w587, by decide, by decide, by decide, by decide +kernel⟩
theorem w652 : (Cond.methodLink "java/lang/StringUTF16" (96 : Nat) ({ cls := "java/lang/StringUTF16", name := "checkBoundsBeginEnd", desc := "(II[B)V" } : Jvm.MethodName)) ∈ tblG := tblG_at 652 (by decide +kernel) (by decide +kernel)
theorem w653 : (Cond.static ({ cls := "java/lang/StringUTF16", name := "checkBoundsBeginEnd", desc := "(II[B)V" } : Jvm.MethodName)) ∈ tblG := tblG_at 653 (by decide +kernel) (by decide +kernel)
theorem w654 : (Cond.code ({ cls := "java/lang/StringUTF16", name := "checkBoundsBeginEnd", desc := "(II[B)V" } : Jvm.MethodName) prog_20_method_93_code (3 : Nat) (Option.none : Option Jvm.ClassFile.FieldType)) ∈ tblG := tblG_at 654 (by decide +kernel) (by decide +kernel)
theorem mJ2_96 : zKS RJ2 96 yJ2_checkBoundsBeginEnd_d044e cJ2_checkBoundsBeginEnd_d044e 3 none 3 := ⟨w652, w653, w86, w654, by decide, by decide, by decide, by decide +kernel⟩
theorem w670 : (Cond.methodLink "java/lang/StringUTF16" (157 : Nat) ({ cls := "java/lang/Character", name := "highSurrogate", desc := "(I)C" } : Jvm.MethodName)) ∈ tblG := tblG_at 670 (by decide +kernel) (by decide +kernel)
theorem w671 : (Cond.static ({ cls := "java/lang/Character", name := "highSurrogate", desc := "(I)C" } : Jvm.MethodName)) ∈ tblG := tblG_at 671 (by decide +kernel) (by decide +kernel)
theorem w87 : (Cond.initialized "java/lang/Character") ∈ tblG := tblG_at 87 (by decide +kernel) (by decide +kernel)
theorem w672 : (Cond.code ({ cls := "java/lang/Character", name := "highSurrogate", desc := "(I)C" } : Jvm.MethodName) prog_15_method_28_code (1 : Nat) (Option.some Jvm.ClassFile.FieldType.char)) ∈ tblG := tblG_at 672 (by decide +kernel) (by decide +kernel)
theorem mJ2_157 : zKS RJ2 157 yJ11_highSurrogate_5068e cJ11_highSurrogate_5068e 1 (some .char) 1 := ⟨w670, w671, w87, w672, by decide, by decide, by decide, by decide +kernel⟩
theorem w674 : (Cond.methodLink "java/lang/StringUTF16" (161 : Nat) ({ cls := "java/lang/Character", name := "lowSurrogate", desc := "(I)C" } : Jvm.MethodName)) ∈ tblG := tblG_at 674 (by decide +kernel) (by decide +kernel)
theorem w675 : (Cond.static ({ cls := "java/lang/Character", name := "lowSurrogate", desc := "(I)C" } : Jvm.MethodName)) ∈ tblG := tblG_at 675 (by decide +kernel) (by decide +kernel)
theorem w676 : (Cond.code ({ cls := "java/lang/Character", name := "lowSurrogate", desc := "(I)C" } : Jvm.MethodName) prog_15_method_29_code (1 : Nat) (Option.some Jvm.ClassFile.FieldType.char)) ∈ tblG := tblG_at 676 (by decide +kernel) (by decide +kernel)
theorem mJ2_161 : zKS RJ2 161 yJ11_lowSurrogate_5068e cJ11_lowSurrogate_5068e 1 (some .char) 1 := ⟨w674, w675, w87, w676, by decide, by decide, by decide, by decide +kernel⟩
theorem w667 : (Cond.methodLink "java/lang/StringUTF16" (164 : Nat) ({ cls := "java/lang/Character", name := "isValidCodePoint", desc := "(I)Z" } : Jvm.MethodName)) ∈ tblG := tblG_at 667 (by decide +kernel) (by decide +kernel)
theorem w668 : (Cond.static ({ cls := "java/lang/Character", name := "isValidCodePoint", desc := "(I)Z" } : Jvm.MethodName)) ∈ tblG := tblG_at 668 (by decide +kernel) (by decide +kernel)
theorem w669 : (Cond.code ({ cls := "java/lang/Character", name := "isValidCodePoint", desc := "(I)Z" } : Jvm.MethodName) prog_15_method_11_code (2 : Nat) (Option.some Jvm.ClassFile.FieldType.boolean)) ∈ tblG := tblG_at 669 (by decide +kernel) (by decide +kernel)
theorem mJ2_164 : zKS RJ2 164 yJ11_isValidCodePoint_9a6ad cJ11_isValidCodePoint_9a6ad 2 (some .boolean) 1 := ⟨w667, w668, w87, w669, by decide, by decide, by decide, by decide +kernel⟩
theorem w647 : (Cond.methodLink "java/lang/StringUTF16" (183 : Nat) ({ cls := "java/lang/Math", name := "min", desc := "(II)I" } : Jvm.MethodName)) ∈ tblG := tblG_at 647 (by decide +kernel) (by decide +kernel)
theorem mJ2_183 : zKS RJ2 183 yJ9_min_7cf53 cJ9_min_7cf53 2 (some .int) 2 := ⟨w647, w531, w82, w532, by decide, by decide, by decide, by decide +kernel⟩
theorem w646 : (Cond.methodLink "java/lang/StringUTF16" (224 : Nat) ({ cls := "java/lang/Math", name := "max", desc := "(II)I" } : Jvm.MethodName)) ∈ tblG := tblG_at 646 (by decide +kernel) (by decide +kernel)
theorem mJ2_224 : zKS RJ2 224 yJ9_max_7cf53 cJ9_max_7cf53 2 (some .int) 2 := ⟨w646, w637, w82, w638, by decide, by decide, by decide, by decide +kernel⟩
theorem w649 : (Cond.methodLink "java/lang/StringUTF16" (228 : Nat) ({ cls := "java/lang/StringUTF16", name := "indexOfChar", desc := "([BIII)I" } : Jvm.MethodName)) ∈ tblG := tblG_at 649 (by decide +kernel) (by decide +kernel)
theorem w650 : (Cond.static ({ cls := "java/lang/StringUTF16", name := "indexOfChar", desc := "([BIII)I" } : Jvm.MethodName)) ∈ tblG := tblG_at 650 (by decide +kernel) (by decide +kernel)
theorem w651 : (Cond.code ({ cls := "java/lang/StringUTF16", name := "indexOfChar", desc := "([BIII)I" } : Jvm.MethodName) prog_20_method_47_code (4 : Nat) (Option.some Jvm.ClassFile.FieldType.int)) ∈ tblG := tblG_at 651 (by decide +kernel) (by decide +kernel)
theorem mJ2_228 : zKS RJ2 228 yJ2_indexOfChar_4cfef cJ2_indexOfChar_4cfef 4 (some .int) 4 := ⟨w649, w650, w86, w651, by decide, by decide, by decide, by decide +kernel⟩
theorem w664 : (Cond.methodLink "java/lang/StringUTF16" (232 : Nat) ({ cls := "java/lang/StringUTF16", name := "indexOfSupplementary", desc := "([BIII)I" } : Jvm.MethodName)) ∈ tblG := tblG_at 664 (by decide +kernel) (by decide +kernel)
theorem w665 : (Cond.static ({ cls := "java/lang/StringUTF16", name := "indexOfSupplementary", desc := "([BIII)I" } : Jvm.MethodName)) ∈ tblG := tblG_at 665 (by decide +kernel) (by decide +kernel)
theorem w666 : (Cond.code ({ cls := "java/lang/StringUTF16", name := "indexOfSupplementary", desc := "([BIII)I" } : Jvm.MethodName) prog_20_method_49_code (7 : Nat) (Option.some Jvm.ClassFile.FieldType.int)) ∈ tblG := tblG_at 666 (by decide +kernel) (by decide +kernel)
theorem mJ2_232 : zKS RJ2 232 yJ2_indexOfSupplementary_4cfef cJ2_indexOfSupplementary_4cfef 7 (some .int) 4 := ⟨w664, w665, w86, w666, by decide, by decide, by decide, by decide +kernel⟩
theorem w655 : (Cond.methodLink "java/lang/StringUTF16" (241 : Nat) ({ cls := "java/lang/String", name := "checkBoundsBeginEnd", desc := "(III)V" } : Jvm.MethodName)) ∈ tblG := tblG_at 655 (by decide +kernel) (by decide +kernel)
theorem w656 : (Cond.static ({ cls := "java/lang/String", name := "checkBoundsBeginEnd", desc := "(III)V" } : Jvm.MethodName)) ∈ tblG := tblG_at 656 (by decide +kernel) (by decide +kernel)
theorem w657 : (Cond.code ({ cls := "java/lang/String", name := "checkBoundsBeginEnd", desc := "(III)V" } : Jvm.MethodName) prog_18_method_158_code (3 : Nat) (Option.none : Option Jvm.ClassFile.FieldType)) ∈ tblG := tblG_at 657 (by decide +kernel) (by decide +kernel)
theorem mJ2_241 : zKS RJ2 241 yJ0_checkBoundsBeginEnd_23922 cJ0_checkBoundsBeginEnd_23922 3 none 3 := ⟨w655, w656, w83, w657, by decide, by decide, by decide, by decide +kernel⟩
theorem w661 : (Cond.methodLink "java/lang/StringUTF16" (244 : Nat) ({ cls := "java/lang/StringUTF16", name := "indexOfCharUnsafe", desc := "([BIII)I" } : Jvm.MethodName)) ∈ tblG := tblG_at 661 (by decide +kernel) (by decide +kernel)
theorem w662 : (Cond.static ({ cls := "java/lang/StringUTF16", name := "indexOfCharUnsafe", desc := "([BIII)I" } : Jvm.MethodName)) ∈ tblG := tblG_at 662 (by decide +kernel) (by decide +kernel)
theorem w663 : (Cond.code ({ cls := "java/lang/StringUTF16", name := "indexOfCharUnsafe", desc := "([BIII)I" } : Jvm.MethodName) prog_20_method_48_code (5 : Nat) (Option.some Jvm.ClassFile.FieldType.int)) ∈ tblG := tblG_at 663 (by decide +kernel) (by decide +kernel)
theorem mJ2_244 : zKS RJ2 244 yJ2_indexOfCharUnsafe_4cfef cJ2_indexOfCharUnsafe_4cfef 5 (some .int) 4 := ⟨w661, w662, w86, w663, by decide, by decide, by decide, by decide +kernel⟩
theorem w584 : (Cond.methodLink "java/lang/StringUTF16" (414 : Nat) ({ cls := "java/lang/String", name := "checkIndex", desc := "(II)V" } : Jvm.MethodName)) ∈ tblG := tblG_at 584 (by decide +kernel) (by decide +kernel)
theorem mJ2_414 : zKS RJ2 414 yJ0_checkIndex_df160 cJ0_checkIndex_df160 2 none 2 := ⟨w584, w568, w83, w569, by decide, by decide, by decide, by decide +kernel⟩
theorem w358 : (Cond.methodLink "ButlerRemembersLaw" (13 : Nat) ({ cls := "ButlerRemembers", name := "master", desc := "(II)I" } : Jvm.MethodName)) ∈ tblG := tblG_at 358 (by decide +kernel) (by decide +kernel)
theorem w359 : (Cond.instanceMethod ({ cls := "ButlerRemembers", name := "master", desc := "(II)I" } : Jvm.MethodName)) ∈ tblG := tblG_at 359 (by decide +kernel) (by decide +kernel)
theorem w360 : (Cond.selects "ButlerRemembers" ({ cls := "ButlerRemembers", name := "master", desc := "(II)I" } : Jvm.MethodName) ({ cls := "ButlerRemembers", name := "master", desc := "(II)I" } : Jvm.MethodName)) ∈ tblG := tblG_at 360 (by decide +kernel) (by decide +kernel)
theorem w68 : (Cond.initialized "ButlerRemembers") ∈ tblG := tblG_at 68 (by decide +kernel) (by decide +kernel)
theorem w361 : (Cond.code ({ cls := "ButlerRemembers", name := "master", desc := "(II)I" } : Jvm.MethodName) prog_1_method_2_code (3 : Nat) (Option.some Jvm.ClassFile.FieldType.int)) ∈ tblG := tblG_at 361 (by decide +kernel) (by decide +kernel)
theorem mL_13 : zKV RL 13 11 yX11_master cX11_master 3 (some .int) 2 := ⟨⟨_, _, rfl⟩, w358, w359, w360, w68, w361, by decide, by decide, by decide, by decide +kernel⟩
theorem w1109 : (Cond.methodLink "ButlerRemembersLaw" (17 : Nat) ({ cls := "ButlerRemembersModel", name := "master", desc := "(II)I" } : Jvm.MethodName)) ∈ tblG := tblG_at 1109 (by decide +kernel) (by decide +kernel)
theorem w1110 : (Cond.instanceMethod ({ cls := "ButlerRemembersModel", name := "master", desc := "(II)I" } : Jvm.MethodName)) ∈ tblG := tblG_at 1110 (by decide +kernel) (by decide +kernel)
theorem w1111 : (Cond.selects "ButlerRemembersModel" ({ cls := "ButlerRemembersModel", name := "master", desc := "(II)I" } : Jvm.MethodName) ({ cls := "ButlerRemembersModel", name := "master", desc := "(II)I" } : Jvm.MethodName)) ∈ tblG := tblG_at 1111 (by decide +kernel) (by decide +kernel)
theorem w80 : (Cond.initialized "ButlerRemembersModel") ∈ tblG := tblG_at 80 (by decide +kernel) (by decide +kernel)
theorem w1112 : (Cond.code ({ cls := "ButlerRemembersModel", name := "master", desc := "(II)I" } : Jvm.MethodName) prog_14_method_13_code (5 : Nat) (Option.some Jvm.ClassFile.FieldType.int)) ∈ tblG := tblG_at 1112 (by decide +kernel) (by decide +kernel)
theorem mL_17 : zKV RL 17 12 yX12_master cX12_master 5 (some .int) 2 := ⟨⟨_, _, rfl⟩, w1109, w1110, w1111, w80, w1112, by decide, by decide, by decide, by decide +kernel⟩
theorem w366 : (Cond.methodLink "ButlerRemembersLaw" (18 : Nat) ({ cls := "ButlerRemembers", name := "of", desc := "(II)I" } : Jvm.MethodName)) ∈ tblG := tblG_at 366 (by decide +kernel) (by decide +kernel)
theorem w367 : (Cond.instanceMethod ({ cls := "ButlerRemembers", name := "of", desc := "(II)I" } : Jvm.MethodName)) ∈ tblG := tblG_at 367 (by decide +kernel) (by decide +kernel)
theorem w368 : (Cond.selects "ButlerRemembers" ({ cls := "ButlerRemembers", name := "of", desc := "(II)I" } : Jvm.MethodName) ({ cls := "ButlerRemembers", name := "of", desc := "(II)I" } : Jvm.MethodName)) ∈ tblG := tblG_at 368 (by decide +kernel) (by decide +kernel)
theorem w369 : (Cond.code ({ cls := "ButlerRemembers", name := "of", desc := "(II)I" } : Jvm.MethodName) prog_1_method_3_code (3 : Nat) (Option.some Jvm.ClassFile.FieldType.int)) ∈ tblG := tblG_at 369 (by decide +kernel) (by decide +kernel)
theorem mL_18 : zKV RL 18 11 yX11_of cX11_of 3 (some .int) 2 := ⟨⟨_, _, rfl⟩, w366, w367, w368, w68, w369, by decide, by decide, by decide, by decide +kernel⟩
theorem w1116 : (Cond.methodLink "ButlerRemembersLaw" (21 : Nat) ({ cls := "ButlerRemembersModel", name := "of", desc := "(II)I" } : Jvm.MethodName)) ∈ tblG := tblG_at 1116 (by decide +kernel) (by decide +kernel)
theorem w1117 : (Cond.instanceMethod ({ cls := "ButlerRemembersModel", name := "of", desc := "(II)I" } : Jvm.MethodName)) ∈ tblG := tblG_at 1117 (by decide +kernel) (by decide +kernel)
theorem w1118 : (Cond.selects "ButlerRemembersModel" ({ cls := "ButlerRemembersModel", name := "of", desc := "(II)I" } : Jvm.MethodName) ({ cls := "ButlerRemembersModel", name := "of", desc := "(II)I" } : Jvm.MethodName)) ∈ tblG := tblG_at 1118 (by decide +kernel) (by decide +kernel)
theorem w1119 : (Cond.code ({ cls := "ButlerRemembersModel", name := "of", desc := "(II)I" } : Jvm.MethodName) prog_14_method_14_code (3 : Nat) (Option.some Jvm.ClassFile.FieldType.int)) ∈ tblG := tblG_at 1119 (by decide +kernel) (by decide +kernel)
theorem mL_21 : zKV RL 21 12 yX12_of cX12_of 3 (some .int) 2 := ⟨⟨_, _, rfl⟩, w1116, w1117, w1118, w80, w1119, by decide, by decide, by decide, by decide +kernel⟩
theorem w455 : (Cond.methodLink "ButlerRemembersLaw" (22 : Nat) ({ cls := "ButlerRemembers", name := "grip", desc := "(III)I" } : Jvm.MethodName)) ∈ tblG := tblG_at 455 (by decide +kernel) (by decide +kernel)
theorem w456 : (Cond.instanceMethod ({ cls := "ButlerRemembers", name := "grip", desc := "(III)I" } : Jvm.MethodName)) ∈ tblG := tblG_at 456 (by decide +kernel) (by decide +kernel)
theorem w457 : (Cond.selects "ButlerRemembers" ({ cls := "ButlerRemembers", name := "grip", desc := "(III)I" } : Jvm.MethodName) ({ cls := "ButlerRemembers", name := "grip", desc := "(III)I" } : Jvm.MethodName)) ∈ tblG := tblG_at 457 (by decide +kernel) (by decide +kernel)
theorem w458 : (Cond.code ({ cls := "ButlerRemembers", name := "grip", desc := "(III)I" } : Jvm.MethodName) prog_1_method_4_code (6 : Nat) (Option.some Jvm.ClassFile.FieldType.int)) ∈ tblG := tblG_at 458 (by decide +kernel) (by decide +kernel)
theorem mL_22 : zKV RL 22 11 yX11_grip cX11_grip 6 (some .int) 3 := ⟨⟨_, _, rfl⟩, w455, w456, w457, w68, w458, by decide, by decide, by decide, by decide +kernel⟩
theorem w1200 : (Cond.methodLink "ButlerRemembersLaw" (26 : Nat) ({ cls := "ButlerRemembersModel", name := "grip", desc := "(III)I" } : Jvm.MethodName)) ∈ tblG := tblG_at 1200 (by decide +kernel) (by decide +kernel)
theorem w1201 : (Cond.instanceMethod ({ cls := "ButlerRemembersModel", name := "grip", desc := "(III)I" } : Jvm.MethodName)) ∈ tblG := tblG_at 1201 (by decide +kernel) (by decide +kernel)
theorem w1202 : (Cond.selects "ButlerRemembersModel" ({ cls := "ButlerRemembersModel", name := "grip", desc := "(III)I" } : Jvm.MethodName) ({ cls := "ButlerRemembersModel", name := "grip", desc := "(III)I" } : Jvm.MethodName)) ∈ tblG := tblG_at 1202 (by decide +kernel) (by decide +kernel)
theorem w1203 : (Cond.code ({ cls := "ButlerRemembersModel", name := "grip", desc := "(III)I" } : Jvm.MethodName) prog_14_method_15_code (4 : Nat) (Option.some Jvm.ClassFile.FieldType.int)) ∈ tblG := tblG_at 1203 (by decide +kernel) (by decide +kernel)
theorem mL_26 : zKV RL 26 12 yX12_grip cX12_grip 4 (some .int) 3 := ⟨⟨_, _, rfl⟩, w1200, w1201, w1202, w80, w1203, by decide, by decide, by decide, by decide +kernel⟩
theorem w462 : (Cond.methodLink "ButlerRemembersLaw" (27 : Nat) ({ cls := "ButlerRemembers", name := "tell", desc := "(II)I" } : Jvm.MethodName)) ∈ tblG := tblG_at 462 (by decide +kernel) (by decide +kernel)
theorem w463 : (Cond.instanceMethod ({ cls := "ButlerRemembers", name := "tell", desc := "(II)I" } : Jvm.MethodName)) ∈ tblG := tblG_at 463 (by decide +kernel) (by decide +kernel)
theorem w464 : (Cond.selects "ButlerRemembers" ({ cls := "ButlerRemembers", name := "tell", desc := "(II)I" } : Jvm.MethodName) ({ cls := "ButlerRemembers", name := "tell", desc := "(II)I" } : Jvm.MethodName)) ∈ tblG := tblG_at 464 (by decide +kernel) (by decide +kernel)
theorem w465 : (Cond.code ({ cls := "ButlerRemembers", name := "tell", desc := "(II)I" } : Jvm.MethodName) prog_1_method_5_code (3 : Nat) (Option.some Jvm.ClassFile.FieldType.int)) ∈ tblG := tblG_at 465 (by decide +kernel) (by decide +kernel)
theorem mL_27 : zKV RL 27 11 yX11_tell cX11_tell 3 (some .int) 2 := ⟨⟨_, _, rfl⟩, w462, w463, w464, w68, w465, by decide, by decide, by decide, by decide +kernel⟩
theorem w1207 : (Cond.methodLink "ButlerRemembersLaw" (30 : Nat) ({ cls := "ButlerRemembersModel", name := "tell", desc := "(II)I" } : Jvm.MethodName)) ∈ tblG := tblG_at 1207 (by decide +kernel) (by decide +kernel)
theorem w1208 : (Cond.instanceMethod ({ cls := "ButlerRemembersModel", name := "tell", desc := "(II)I" } : Jvm.MethodName)) ∈ tblG := tblG_at 1208 (by decide +kernel) (by decide +kernel)
theorem w1209 : (Cond.selects "ButlerRemembersModel" ({ cls := "ButlerRemembersModel", name := "tell", desc := "(II)I" } : Jvm.MethodName) ({ cls := "ButlerRemembersModel", name := "tell", desc := "(II)I" } : Jvm.MethodName)) ∈ tblG := tblG_at 1209 (by decide +kernel) (by decide +kernel)
theorem w1210 : (Cond.code ({ cls := "ButlerRemembersModel", name := "tell", desc := "(II)I" } : Jvm.MethodName) prog_14_method_16_code (3 : Nat) (Option.some Jvm.ClassFile.FieldType.int)) ∈ tblG := tblG_at 1210 (by decide +kernel) (by decide +kernel)
theorem mL_30 : zKV RL 30 12 yX12_tell cX12_tell 3 (some .int) 2 := ⟨⟨_, _, rfl⟩, w1207, w1208, w1209, w80, w1210, by decide, by decide, by decide, by decide +kernel⟩
theorem w466 : (Cond.methodLink "ButlerRemembersLaw" (31 : Nat) ({ cls := "ButlerRemembers", name := "mind", desc := "(II)I" } : Jvm.MethodName)) ∈ tblG := tblG_at 466 (by decide +kernel) (by decide +kernel)
theorem w467 : (Cond.instanceMethod ({ cls := "ButlerRemembers", name := "mind", desc := "(II)I" } : Jvm.MethodName)) ∈ tblG := tblG_at 467 (by decide +kernel) (by decide +kernel)
theorem w468 : (Cond.selects "ButlerRemembers" ({ cls := "ButlerRemembers", name := "mind", desc := "(II)I" } : Jvm.MethodName) ({ cls := "ButlerRemembers", name := "mind", desc := "(II)I" } : Jvm.MethodName)) ∈ tblG := tblG_at 468 (by decide +kernel) (by decide +kernel)
theorem w469 : (Cond.code ({ cls := "ButlerRemembers", name := "mind", desc := "(II)I" } : Jvm.MethodName) prog_1_method_6_code (4 : Nat) (Option.some Jvm.ClassFile.FieldType.int)) ∈ tblG := tblG_at 469 (by decide +kernel) (by decide +kernel)
theorem mL_31 : zKV RL 31 11 yX11_mind cX11_mind 4 (some .int) 2 := ⟨⟨_, _, rfl⟩, w466, w467, w468, w68, w469, by decide, by decide, by decide, by decide +kernel⟩
theorem w1211 : (Cond.methodLink "ButlerRemembersLaw" (34 : Nat) ({ cls := "ButlerRemembersModel", name := "mind", desc := "(II)I" } : Jvm.MethodName)) ∈ tblG := tblG_at 1211 (by decide +kernel) (by decide +kernel)
theorem w1212 : (Cond.instanceMethod ({ cls := "ButlerRemembersModel", name := "mind", desc := "(II)I" } : Jvm.MethodName)) ∈ tblG := tblG_at 1212 (by decide +kernel) (by decide +kernel)
theorem w1213 : (Cond.selects "ButlerRemembersModel" ({ cls := "ButlerRemembersModel", name := "mind", desc := "(II)I" } : Jvm.MethodName) ({ cls := "ButlerRemembersModel", name := "mind", desc := "(II)I" } : Jvm.MethodName)) ∈ tblG := tblG_at 1213 (by decide +kernel) (by decide +kernel)
theorem w1214 : (Cond.code ({ cls := "ButlerRemembersModel", name := "mind", desc := "(II)I" } : Jvm.MethodName) prog_14_method_17_code (4 : Nat) (Option.some Jvm.ClassFile.FieldType.int)) ∈ tblG := tblG_at 1214 (by decide +kernel) (by decide +kernel)
theorem mL_34 : zKV RL 34 12 yX12_mind cX12_mind 4 (some .int) 2 := ⟨⟨_, _, rfl⟩, w1211, w1212, w1213, w80, w1214, by decide, by decide, by decide, by decide +kernel⟩
theorem w473 : (Cond.methodLink "ButlerRemembersLaw" (35 : Nat) ({ cls := "ButlerRemembers", name := "deed", desc := "(III)I" } : Jvm.MethodName)) ∈ tblG := tblG_at 473 (by decide +kernel) (by decide +kernel)
theorem w474 : (Cond.instanceMethod ({ cls := "ButlerRemembers", name := "deed", desc := "(III)I" } : Jvm.MethodName)) ∈ tblG := tblG_at 474 (by decide +kernel) (by decide +kernel)
theorem w475 : (Cond.selects "ButlerRemembers" ({ cls := "ButlerRemembers", name := "deed", desc := "(III)I" } : Jvm.MethodName) ({ cls := "ButlerRemembers", name := "deed", desc := "(III)I" } : Jvm.MethodName)) ∈ tblG := tblG_at 475 (by decide +kernel) (by decide +kernel)
theorem w476 : (Cond.code ({ cls := "ButlerRemembers", name := "deed", desc := "(III)I" } : Jvm.MethodName) prog_1_method_7_code (4 : Nat) (Option.some Jvm.ClassFile.FieldType.int)) ∈ tblG := tblG_at 476 (by decide +kernel) (by decide +kernel)
theorem mL_35 : zKV RL 35 11 yX11_deed cX11_deed 4 (some .int) 3 := ⟨⟨_, _, rfl⟩, w473, w474, w475, w68, w476, by decide, by decide, by decide, by decide +kernel⟩
theorem w1218 : (Cond.methodLink "ButlerRemembersLaw" (38 : Nat) ({ cls := "ButlerRemembersModel", name := "deed", desc := "(III)I" } : Jvm.MethodName)) ∈ tblG := tblG_at 1218 (by decide +kernel) (by decide +kernel)
theorem w1219 : (Cond.instanceMethod ({ cls := "ButlerRemembersModel", name := "deed", desc := "(III)I" } : Jvm.MethodName)) ∈ tblG := tblG_at 1219 (by decide +kernel) (by decide +kernel)
theorem w1220 : (Cond.selects "ButlerRemembersModel" ({ cls := "ButlerRemembersModel", name := "deed", desc := "(III)I" } : Jvm.MethodName) ({ cls := "ButlerRemembersModel", name := "deed", desc := "(III)I" } : Jvm.MethodName)) ∈ tblG := tblG_at 1220 (by decide +kernel) (by decide +kernel)
theorem w1221 : (Cond.code ({ cls := "ButlerRemembersModel", name := "deed", desc := "(III)I" } : Jvm.MethodName) prog_14_method_18_code (5 : Nat) (Option.some Jvm.ClassFile.FieldType.int)) ∈ tblG := tblG_at 1221 (by decide +kernel) (by decide +kernel)
theorem mL_38 : zKV RL 38 12 yX12_deed cX12_deed 5 (some .int) 3 := ⟨⟨_, _, rfl⟩, w1218, w1219, w1220, w80, w1221, by decide, by decide, by decide, by decide +kernel⟩
theorem w481 : (Cond.methodLink "ButlerRemembersLaw" (39 : Nat) ({ cls := "ButlerRemembers", name := "footman", desc := "(I)I" } : Jvm.MethodName)) ∈ tblG := tblG_at 481 (by decide +kernel) (by decide +kernel)
theorem w482 : (Cond.instanceMethod ({ cls := "ButlerRemembers", name := "footman", desc := "(I)I" } : Jvm.MethodName)) ∈ tblG := tblG_at 482 (by decide +kernel) (by decide +kernel)
theorem w483 : (Cond.selects "ButlerRemembers" ({ cls := "ButlerRemembers", name := "footman", desc := "(I)I" } : Jvm.MethodName) ({ cls := "ButlerRemembers", name := "footman", desc := "(I)I" } : Jvm.MethodName)) ∈ tblG := tblG_at 483 (by decide +kernel) (by decide +kernel)
theorem w484 : (Cond.code ({ cls := "ButlerRemembers", name := "footman", desc := "(I)I" } : Jvm.MethodName) prog_1_method_8_code (2 : Nat) (Option.some Jvm.ClassFile.FieldType.int)) ∈ tblG := tblG_at 484 (by decide +kernel) (by decide +kernel)
theorem mL_39 : zKV RL 39 11 yX11_footman cX11_footman 2 (some .int) 1 := ⟨⟨_, _, rfl⟩, w481, w482, w483, w68, w484, by decide, by decide, by decide, by decide +kernel⟩
theorem w1222 : (Cond.methodLink "ButlerRemembersLaw" (43 : Nat) ({ cls := "ButlerRemembersModel", name := "footman", desc := "(I)I" } : Jvm.MethodName)) ∈ tblG := tblG_at 1222 (by decide +kernel) (by decide +kernel)
theorem w1223 : (Cond.instanceMethod ({ cls := "ButlerRemembersModel", name := "footman", desc := "(I)I" } : Jvm.MethodName)) ∈ tblG := tblG_at 1223 (by decide +kernel) (by decide +kernel)
theorem w1224 : (Cond.selects "ButlerRemembersModel" ({ cls := "ButlerRemembersModel", name := "footman", desc := "(I)I" } : Jvm.MethodName) ({ cls := "ButlerRemembersModel", name := "footman", desc := "(I)I" } : Jvm.MethodName)) ∈ tblG := tblG_at 1224 (by decide +kernel) (by decide +kernel)
theorem w1225 : (Cond.code ({ cls := "ButlerRemembersModel", name := "footman", desc := "(I)I" } : Jvm.MethodName) prog_14_method_19_code (3 : Nat) (Option.some Jvm.ClassFile.FieldType.int)) ∈ tblG := tblG_at 1225 (by decide +kernel) (by decide +kernel)
theorem mL_43 : zKV RL 43 12 yX12_footman cX12_footman 3 (some .int) 1 := ⟨⟨_, _, rfl⟩, w1222, w1223, w1224, w80, w1225, by decide, by decide, by decide, by decide +kernel⟩
theorem w489 : (Cond.methodLink "ButlerRemembersLaw" (44 : Nat) ({ cls := "ButlerRemembers", name := "out", desc := "(IZ)I" } : Jvm.MethodName)) ∈ tblG := tblG_at 489 (by decide +kernel) (by decide +kernel)
theorem w490 : (Cond.instanceMethod ({ cls := "ButlerRemembers", name := "out", desc := "(IZ)I" } : Jvm.MethodName)) ∈ tblG := tblG_at 490 (by decide +kernel) (by decide +kernel)
theorem w491 : (Cond.selects "ButlerRemembers" ({ cls := "ButlerRemembers", name := "out", desc := "(IZ)I" } : Jvm.MethodName) ({ cls := "ButlerRemembers", name := "out", desc := "(IZ)I" } : Jvm.MethodName)) ∈ tblG := tblG_at 491 (by decide +kernel) (by decide +kernel)
theorem w492 : (Cond.code ({ cls := "ButlerRemembers", name := "out", desc := "(IZ)I" } : Jvm.MethodName) prog_1_method_9_code (5 : Nat) (Option.some Jvm.ClassFile.FieldType.int)) ∈ tblG := tblG_at 492 (by decide +kernel) (by decide +kernel)
theorem mL_44 : zKV RL 44 11 yX11_out cX11_out 5 (some .int) 2 := ⟨⟨_, _, rfl⟩, w489, w490, w491, w68, w492, by decide, by decide, by decide, by decide +kernel⟩
theorem w1226 : (Cond.methodLink "ButlerRemembersLaw" (48 : Nat) ({ cls := "ButlerRemembersModel", name := "out", desc := "(IZ)I" } : Jvm.MethodName)) ∈ tblG := tblG_at 1226 (by decide +kernel) (by decide +kernel)
theorem w1227 : (Cond.instanceMethod ({ cls := "ButlerRemembersModel", name := "out", desc := "(IZ)I" } : Jvm.MethodName)) ∈ tblG := tblG_at 1227 (by decide +kernel) (by decide +kernel)
theorem w1228 : (Cond.selects "ButlerRemembersModel" ({ cls := "ButlerRemembersModel", name := "out", desc := "(IZ)I" } : Jvm.MethodName) ({ cls := "ButlerRemembersModel", name := "out", desc := "(IZ)I" } : Jvm.MethodName)) ∈ tblG := tblG_at 1228 (by decide +kernel) (by decide +kernel)
theorem w1229 : (Cond.code ({ cls := "ButlerRemembersModel", name := "out", desc := "(IZ)I" } : Jvm.MethodName) prog_14_method_22_code (4 : Nat) (Option.some Jvm.ClassFile.FieldType.int)) ∈ tblG := tblG_at 1229 (by decide +kernel) (by decide +kernel)
theorem mL_48 : zKV RL 48 12 yX12_out cX12_out 4 (some .int) 2 := ⟨⟨_, _, rfl⟩, w1226, w1227, w1228, w80, w1229, by decide, by decide, by decide, by decide +kernel⟩
theorem w501 : (Cond.methodLink "ButlerRemembersLaw" (49 : Nat) ({ cls := "ButlerRemembers", name := "lost", desc := "(I)I" } : Jvm.MethodName)) ∈ tblG := tblG_at 501 (by decide +kernel) (by decide +kernel)
theorem w502 : (Cond.instanceMethod ({ cls := "ButlerRemembers", name := "lost", desc := "(I)I" } : Jvm.MethodName)) ∈ tblG := tblG_at 502 (by decide +kernel) (by decide +kernel)
theorem w503 : (Cond.selects "ButlerRemembers" ({ cls := "ButlerRemembers", name := "lost", desc := "(I)I" } : Jvm.MethodName) ({ cls := "ButlerRemembers", name := "lost", desc := "(I)I" } : Jvm.MethodName)) ∈ tblG := tblG_at 503 (by decide +kernel) (by decide +kernel)
theorem w504 : (Cond.code ({ cls := "ButlerRemembers", name := "lost", desc := "(I)I" } : Jvm.MethodName) prog_1_method_10_code (2 : Nat) (Option.some Jvm.ClassFile.FieldType.int)) ∈ tblG := tblG_at 504 (by decide +kernel) (by decide +kernel)
theorem mL_49 : zKV RL 49 11 yX11_lost cX11_lost 2 (some .int) 1 := ⟨⟨_, _, rfl⟩, w501, w502, w503, w68, w504, by decide, by decide, by decide, by decide +kernel⟩
theorem w1246 : (Cond.methodLink "ButlerRemembersLaw" (52 : Nat) ({ cls := "ButlerRemembersModel", name := "lost", desc := "(I)I" } : Jvm.MethodName)) ∈ tblG := tblG_at 1246 (by decide +kernel) (by decide +kernel)
theorem w1247 : (Cond.instanceMethod ({ cls := "ButlerRemembersModel", name := "lost", desc := "(I)I" } : Jvm.MethodName)) ∈ tblG := tblG_at 1247 (by decide +kernel) (by decide +kernel)
theorem w1248 : (Cond.selects "ButlerRemembersModel" ({ cls := "ButlerRemembersModel", name := "lost", desc := "(I)I" } : Jvm.MethodName) ({ cls := "ButlerRemembersModel", name := "lost", desc := "(I)I" } : Jvm.MethodName)) ∈ tblG := tblG_at 1248 (by decide +kernel) (by decide +kernel)
theorem w1249 : (Cond.code ({ cls := "ButlerRemembersModel", name := "lost", desc := "(I)I" } : Jvm.MethodName) prog_14_method_53_code (2 : Nat) (Option.some Jvm.ClassFile.FieldType.int)) ∈ tblG := tblG_at 1249 (by decide +kernel) (by decide +kernel)
theorem mL_52 : zKV RL 52 12 yX12_lost cX12_lost 2 (some .int) 1 := ⟨⟨_, _, rfl⟩, w1246, w1247, w1248, w80, w1249, by decide, by decide, by decide, by decide +kernel⟩
theorem w514 : (Cond.methodLink "ButlerRemembersLaw" (53 : Nat) ({ cls := "ButlerRemembers", name := "row", desc := "(III)I" } : Jvm.MethodName)) ∈ tblG := tblG_at 514 (by decide +kernel) (by decide +kernel)
theorem w515 : (Cond.instanceMethod ({ cls := "ButlerRemembers", name := "row", desc := "(III)I" } : Jvm.MethodName)) ∈ tblG := tblG_at 515 (by decide +kernel) (by decide +kernel)
theorem w516 : (Cond.selects "ButlerRemembers" ({ cls := "ButlerRemembers", name := "row", desc := "(III)I" } : Jvm.MethodName) ({ cls := "ButlerRemembers", name := "row", desc := "(III)I" } : Jvm.MethodName)) ∈ tblG := tblG_at 516 (by decide +kernel) (by decide +kernel)
theorem w517 : (Cond.code ({ cls := "ButlerRemembers", name := "row", desc := "(III)I" } : Jvm.MethodName) prog_1_method_11_code (6 : Nat) (Option.some Jvm.ClassFile.FieldType.int)) ∈ tblG := tblG_at 517 (by decide +kernel) (by decide +kernel)
theorem mL_53 : zKV RL 53 11 yX11_row cX11_row 6 (some .int) 3 := ⟨⟨_, _, rfl⟩, w514, w515, w516, w68, w517, by decide, by decide, by decide, by decide +kernel⟩
theorem w1234 : (Cond.methodLink "ButlerRemembersLaw" (56 : Nat) ({ cls := "ButlerRemembersModel", name := "row", desc := "(III)I" } : Jvm.MethodName)) ∈ tblG := tblG_at 1234 (by decide +kernel) (by decide +kernel)
theorem w1235 : (Cond.instanceMethod ({ cls := "ButlerRemembersModel", name := "row", desc := "(III)I" } : Jvm.MethodName)) ∈ tblG := tblG_at 1235 (by decide +kernel) (by decide +kernel)
theorem w1236 : (Cond.selects "ButlerRemembersModel" ({ cls := "ButlerRemembersModel", name := "row", desc := "(III)I" } : Jvm.MethodName) ({ cls := "ButlerRemembersModel", name := "row", desc := "(III)I" } : Jvm.MethodName)) ∈ tblG := tblG_at 1236 (by decide +kernel) (by decide +kernel)
theorem w1237 : (Cond.code ({ cls := "ButlerRemembersModel", name := "row", desc := "(III)I" } : Jvm.MethodName) prog_14_method_23_code (5 : Nat) (Option.some Jvm.ClassFile.FieldType.int)) ∈ tblG := tblG_at 1237 (by decide +kernel) (by decide +kernel)
theorem mL_56 : zKV RL 56 12 yX12_row cX12_row 5 (some .int) 3 := ⟨⟨_, _, rfl⟩, w1234, w1235, w1236, w80, w1237, by decide, by decide, by decide, by decide +kernel⟩
theorem w518 : (Cond.methodLink "ButlerRemembersLaw" (57 : Nat) ({ cls := "ButlerRemembers", name := "feed", desc := "(I)I" } : Jvm.MethodName)) ∈ tblG := tblG_at 518 (by decide +kernel) (by decide +kernel)
theorem w519 : (Cond.instanceMethod ({ cls := "ButlerRemembers", name := "feed", desc := "(I)I" } : Jvm.MethodName)) ∈ tblG := tblG_at 519 (by decide +kernel) (by decide +kernel)
theorem w520 : (Cond.selects "ButlerRemembers" ({ cls := "ButlerRemembers", name := "feed", desc := "(I)I" } : Jvm.MethodName) ({ cls := "ButlerRemembers", name := "feed", desc := "(I)I" } : Jvm.MethodName)) ∈ tblG := tblG_at 520 (by decide +kernel) (by decide +kernel)
theorem w521 : (Cond.code ({ cls := "ButlerRemembers", name := "feed", desc := "(I)I" } : Jvm.MethodName) prog_1_method_12_code (2 : Nat) (Option.some Jvm.ClassFile.FieldType.int)) ∈ tblG := tblG_at 521 (by decide +kernel) (by decide +kernel)
theorem mL_57 : zKV RL 57 11 yX11_feed cX11_feed 2 (some .int) 1 := ⟨⟨_, _, rfl⟩, w518, w519, w520, w68, w521, by decide, by decide, by decide, by decide +kernel⟩
theorem w1238 : (Cond.methodLink "ButlerRemembersLaw" (60 : Nat) ({ cls := "ButlerRemembersModel", name := "feed", desc := "(I)I" } : Jvm.MethodName)) ∈ tblG := tblG_at 1238 (by decide +kernel) (by decide +kernel)
theorem w1239 : (Cond.instanceMethod ({ cls := "ButlerRemembersModel", name := "feed", desc := "(I)I" } : Jvm.MethodName)) ∈ tblG := tblG_at 1239 (by decide +kernel) (by decide +kernel)
theorem w1240 : (Cond.selects "ButlerRemembersModel" ({ cls := "ButlerRemembersModel", name := "feed", desc := "(I)I" } : Jvm.MethodName) ({ cls := "ButlerRemembersModel", name := "feed", desc := "(I)I" } : Jvm.MethodName)) ∈ tblG := tblG_at 1240 (by decide +kernel) (by decide +kernel)
theorem w1241 : (Cond.code ({ cls := "ButlerRemembersModel", name := "feed", desc := "(I)I" } : Jvm.MethodName) prog_14_method_24_code (2 : Nat) (Option.some Jvm.ClassFile.FieldType.int)) ∈ tblG := tblG_at 1241 (by decide +kernel) (by decide +kernel)
theorem mL_60 : zKV RL 60 12 yX12_feed cX12_feed 2 (some .int) 1 := ⟨⟨_, _, rfl⟩, w1238, w1239, w1240, w80, w1241, by decide, by decide, by decide, by decide +kernel⟩
theorem w522 : (Cond.methodLink "ButlerRemembersLaw" (61 : Nat) ({ cls := "ButlerRemembers", name := "house", desc := "()I" } : Jvm.MethodName)) ∈ tblG := tblG_at 522 (by decide +kernel) (by decide +kernel)
theorem w523 : (Cond.instanceMethod ({ cls := "ButlerRemembers", name := "house", desc := "()I" } : Jvm.MethodName)) ∈ tblG := tblG_at 523 (by decide +kernel) (by decide +kernel)
theorem w524 : (Cond.selects "ButlerRemembers" ({ cls := "ButlerRemembers", name := "house", desc := "()I" } : Jvm.MethodName) ({ cls := "ButlerRemembers", name := "house", desc := "()I" } : Jvm.MethodName)) ∈ tblG := tblG_at 524 (by decide +kernel) (by decide +kernel)
theorem w525 : (Cond.code ({ cls := "ButlerRemembers", name := "house", desc := "()I" } : Jvm.MethodName) prog_1_method_13_code (2 : Nat) (Option.some Jvm.ClassFile.FieldType.int)) ∈ tblG := tblG_at 525 (by decide +kernel) (by decide +kernel)
theorem mL_61 : zKV RL 61 11 yX11_house cX11_house 2 (some .int) 0 := ⟨⟨_, _, rfl⟩, w522, w523, w524, w68, w525, by decide, by decide, by decide, by decide +kernel⟩
theorem w1242 : (Cond.methodLink "ButlerRemembersLaw" (65 : Nat) ({ cls := "ButlerRemembersModel", name := "house", desc := "()I" } : Jvm.MethodName)) ∈ tblG := tblG_at 1242 (by decide +kernel) (by decide +kernel)
theorem w1243 : (Cond.instanceMethod ({ cls := "ButlerRemembersModel", name := "house", desc := "()I" } : Jvm.MethodName)) ∈ tblG := tblG_at 1243 (by decide +kernel) (by decide +kernel)
theorem w1244 : (Cond.selects "ButlerRemembersModel" ({ cls := "ButlerRemembersModel", name := "house", desc := "()I" } : Jvm.MethodName) ({ cls := "ButlerRemembersModel", name := "house", desc := "()I" } : Jvm.MethodName)) ∈ tblG := tblG_at 1244 (by decide +kernel) (by decide +kernel)
theorem w1245 : (Cond.code ({ cls := "ButlerRemembersModel", name := "house", desc := "()I" } : Jvm.MethodName) prog_14_method_36_code (2 : Nat) (Option.some Jvm.ClassFile.FieldType.int)) ∈ tblG := tblG_at 1245 (by decide +kernel) (by decide +kernel)
theorem mL_65 : zKV RL 65 12 yX12_house cX12_house 2 (some .int) 0 := ⟨⟨_, _, rfl⟩, w1242, w1243, w1244, w80, w1245, by decide, by decide, by decide, by decide +kernel⟩
theorem w687 : (Cond.methodLink "ButlerRemembersLaw" (66 : Nat) ({ cls := "ButlerRemembers", name := "told", desc := "(I)I" } : Jvm.MethodName)) ∈ tblG := tblG_at 687 (by decide +kernel) (by decide +kernel)
theorem w688 : (Cond.instanceMethod ({ cls := "ButlerRemembers", name := "told", desc := "(I)I" } : Jvm.MethodName)) ∈ tblG := tblG_at 688 (by decide +kernel) (by decide +kernel)
theorem w689 : (Cond.selects "ButlerRemembers" ({ cls := "ButlerRemembers", name := "told", desc := "(I)I" } : Jvm.MethodName) ({ cls := "ButlerRemembers", name := "told", desc := "(I)I" } : Jvm.MethodName)) ∈ tblG := tblG_at 689 (by decide +kernel) (by decide +kernel)
theorem w690 : (Cond.code ({ cls := "ButlerRemembers", name := "told", desc := "(I)I" } : Jvm.MethodName) prog_1_method_14_code (2 : Nat) (Option.some Jvm.ClassFile.FieldType.int)) ∈ tblG := tblG_at 690 (by decide +kernel) (by decide +kernel)
theorem mL_66 : zKV RL 66 11 yX11_told cX11_told 2 (some .int) 1 := ⟨⟨_, _, rfl⟩, w687, w688, w689, w68, w690, by decide, by decide, by decide, by decide +kernel⟩
theorem w1262 : (Cond.methodLink "ButlerRemembersLaw" (69 : Nat) ({ cls := "ButlerRemembersModel", name := "told", desc := "(I)I" } : Jvm.MethodName)) ∈ tblG := tblG_at 1262 (by decide +kernel) (by decide +kernel)
theorem w1263 : (Cond.instanceMethod ({ cls := "ButlerRemembersModel", name := "told", desc := "(I)I" } : Jvm.MethodName)) ∈ tblG := tblG_at 1263 (by decide +kernel) (by decide +kernel)
theorem w1264 : (Cond.selects "ButlerRemembersModel" ({ cls := "ButlerRemembersModel", name := "told", desc := "(I)I" } : Jvm.MethodName) ({ cls := "ButlerRemembersModel", name := "told", desc := "(I)I" } : Jvm.MethodName)) ∈ tblG := tblG_at 1264 (by decide +kernel) (by decide +kernel)
theorem w1265 : (Cond.code ({ cls := "ButlerRemembersModel", name := "told", desc := "(I)I" } : Jvm.MethodName) prog_14_method_56_code (2 : Nat) (Option.some Jvm.ClassFile.FieldType.int)) ∈ tblG := tblG_at 1265 (by decide +kernel) (by decide +kernel)
theorem mL_69 : zKV RL 69 12 yX12_told cX12_told 2 (some .int) 1 := ⟨⟨_, _, rfl⟩, w1262, w1263, w1264, w80, w1265, by decide, by decide, by decide, by decide +kernel⟩
theorem w745 : (Cond.methodLink "ButlerRemembersLaw" (70 : Nat) ({ cls := "ButlerRemembers", name := "pass", desc := "(I)I" } : Jvm.MethodName)) ∈ tblG := tblG_at 745 (by decide +kernel) (by decide +kernel)
theorem w746 : (Cond.instanceMethod ({ cls := "ButlerRemembers", name := "pass", desc := "(I)I" } : Jvm.MethodName)) ∈ tblG := tblG_at 746 (by decide +kernel) (by decide +kernel)
theorem w747 : (Cond.selects "ButlerRemembers" ({ cls := "ButlerRemembers", name := "pass", desc := "(I)I" } : Jvm.MethodName) ({ cls := "ButlerRemembers", name := "pass", desc := "(I)I" } : Jvm.MethodName)) ∈ tblG := tblG_at 747 (by decide +kernel) (by decide +kernel)
theorem w748 : (Cond.code ({ cls := "ButlerRemembers", name := "pass", desc := "(I)I" } : Jvm.MethodName) prog_1_method_15_code (2 : Nat) (Option.some Jvm.ClassFile.FieldType.int)) ∈ tblG := tblG_at 748 (by decide +kernel) (by decide +kernel)
theorem mL_70 : zKV RL 70 11 yX11_pass cX11_pass 2 (some .int) 1 := ⟨⟨_, _, rfl⟩, w745, w746, w747, w68, w748, by decide, by decide, by decide, by decide +kernel⟩
theorem w1310 : (Cond.methodLink "ButlerRemembersLaw" (73 : Nat) ({ cls := "ButlerRemembersModel", name := "pass", desc := "(I)I" } : Jvm.MethodName)) ∈ tblG := tblG_at 1310 (by decide +kernel) (by decide +kernel)
theorem w1311 : (Cond.instanceMethod ({ cls := "ButlerRemembersModel", name := "pass", desc := "(I)I" } : Jvm.MethodName)) ∈ tblG := tblG_at 1311 (by decide +kernel) (by decide +kernel)
theorem w1312 : (Cond.selects "ButlerRemembersModel" ({ cls := "ButlerRemembersModel", name := "pass", desc := "(I)I" } : Jvm.MethodName) ({ cls := "ButlerRemembersModel", name := "pass", desc := "(I)I" } : Jvm.MethodName)) ∈ tblG := tblG_at 1312 (by decide +kernel) (by decide +kernel)
theorem w1313 : (Cond.code ({ cls := "ButlerRemembersModel", name := "pass", desc := "(I)I" } : Jvm.MethodName) prog_14_method_57_code (3 : Nat) (Option.some Jvm.ClassFile.FieldType.int)) ∈ tblG := tblG_at 1313 (by decide +kernel) (by decide +kernel)
theorem mL_73 : zKV RL 73 12 yX12_pass cX12_pass 3 (some .int) 1 := ⟨⟨_, _, rfl⟩, w1310, w1311, w1312, w80, w1313, by decide, by decide, by decide, by decide +kernel⟩
theorem w749 : (Cond.methodLink "ButlerRemembersLaw" (74 : Nat) ({ cls := "ButlerRemembers", name := "on", desc := "(II)I" } : Jvm.MethodName)) ∈ tblG := tblG_at 749 (by decide +kernel) (by decide +kernel)
theorem w750 : (Cond.instanceMethod ({ cls := "ButlerRemembers", name := "on", desc := "(II)I" } : Jvm.MethodName)) ∈ tblG := tblG_at 750 (by decide +kernel) (by decide +kernel)
theorem w751 : (Cond.selects "ButlerRemembers" ({ cls := "ButlerRemembers", name := "on", desc := "(II)I" } : Jvm.MethodName) ({ cls := "ButlerRemembers", name := "on", desc := "(II)I" } : Jvm.MethodName)) ∈ tblG := tblG_at 751 (by decide +kernel) (by decide +kernel)
theorem w752 : (Cond.code ({ cls := "ButlerRemembers", name := "on", desc := "(II)I" } : Jvm.MethodName) prog_1_method_16_code (4 : Nat) (Option.some Jvm.ClassFile.FieldType.int)) ∈ tblG := tblG_at 752 (by decide +kernel) (by decide +kernel)
theorem mL_74 : zKV RL 74 11 yX11_on cX11_on 4 (some .int) 2 := ⟨⟨_, _, rfl⟩, w749, w750, w751, w68, w752, by decide, by decide, by decide, by decide +kernel⟩
theorem w1314 : (Cond.methodLink "ButlerRemembersLaw" (77 : Nat) ({ cls := "ButlerRemembersModel", name := "on", desc := "(II)I" } : Jvm.MethodName)) ∈ tblG := tblG_at 1314 (by decide +kernel) (by decide +kernel)
theorem w1315 : (Cond.instanceMethod ({ cls := "ButlerRemembersModel", name := "on", desc := "(II)I" } : Jvm.MethodName)) ∈ tblG := tblG_at 1315 (by decide +kernel) (by decide +kernel)
theorem w1316 : (Cond.selects "ButlerRemembersModel" ({ cls := "ButlerRemembersModel", name := "on", desc := "(II)I" } : Jvm.MethodName) ({ cls := "ButlerRemembersModel", name := "on", desc := "(II)I" } : Jvm.MethodName)) ∈ tblG := tblG_at 1316 (by decide +kernel) (by decide +kernel)
theorem w1317 : (Cond.code ({ cls := "ButlerRemembersModel", name := "on", desc := "(II)I" } : Jvm.MethodName) prog_14_method_59_code (4 : Nat) (Option.some Jvm.ClassFile.FieldType.int)) ∈ tblG := tblG_at 1317 (by decide +kernel) (by decide +kernel)
theorem mL_77 : zKV RL 77 12 yX12_on cX12_on 4 (some .int) 2 := ⟨⟨_, _, rfl⟩, w1314, w1315, w1316, w80, w1317, by decide, by decide, by decide, by decide +kernel⟩
theorem w761 : (Cond.methodLink "ButlerRemembersLaw" (78 : Nat) ({ cls := "ButlerRemembers", name := "see", desc := "(IIIZ)I" } : Jvm.MethodName)) ∈ tblG := tblG_at 761 (by decide +kernel) (by decide +kernel)
theorem w762 : (Cond.instanceMethod ({ cls := "ButlerRemembers", name := "see", desc := "(IIIZ)I" } : Jvm.MethodName)) ∈ tblG := tblG_at 762 (by decide +kernel) (by decide +kernel)
theorem w763 : (Cond.selects "ButlerRemembers" ({ cls := "ButlerRemembers", name := "see", desc := "(IIIZ)I" } : Jvm.MethodName) ({ cls := "ButlerRemembers", name := "see", desc := "(IIIZ)I" } : Jvm.MethodName)) ∈ tblG := tblG_at 763 (by decide +kernel) (by decide +kernel)
theorem w764 : (Cond.code ({ cls := "ButlerRemembers", name := "see", desc := "(IIIZ)I" } : Jvm.MethodName) prog_1_method_17_code (5 : Nat) (Option.some Jvm.ClassFile.FieldType.int)) ∈ tblG := tblG_at 764 (by decide +kernel) (by decide +kernel)
theorem mL_78 : zKV RL 78 11 yX11_see cX11_see 5 (some .int) 4 := ⟨⟨_, _, rfl⟩, w761, w762, w763, w68, w764, by decide, by decide, by decide, by decide +kernel⟩
theorem w1326 : (Cond.methodLink "ButlerRemembersLaw" (82 : Nat) ({ cls := "ButlerRemembersModel", name := "see", desc := "(IIIZ)I" } : Jvm.MethodName)) ∈ tblG := tblG_at 1326 (by decide +kernel) (by decide +kernel)
theorem w1327 : (Cond.instanceMethod ({ cls := "ButlerRemembersModel", name := "see", desc := "(IIIZ)I" } : Jvm.MethodName)) ∈ tblG := tblG_at 1327 (by decide +kernel) (by decide +kernel)
theorem w1328 : (Cond.selects "ButlerRemembersModel" ({ cls := "ButlerRemembersModel", name := "see", desc := "(IIIZ)I" } : Jvm.MethodName) ({ cls := "ButlerRemembersModel", name := "see", desc := "(IIIZ)I" } : Jvm.MethodName)) ∈ tblG := tblG_at 1328 (by decide +kernel) (by decide +kernel)
theorem w1329 : (Cond.code ({ cls := "ButlerRemembersModel", name := "see", desc := "(IIIZ)I" } : Jvm.MethodName) prog_14_method_60_code (6 : Nat) (Option.some Jvm.ClassFile.FieldType.int)) ∈ tblG := tblG_at 1329 (by decide +kernel) (by decide +kernel)
theorem mL_82 : zKV RL 82 12 yX12_see cX12_see 6 (some .int) 4 := ⟨⟨_, _, rfl⟩, w1326, w1327, w1328, w80, w1329, by decide, by decide, by decide, by decide +kernel⟩
theorem w769 : (Cond.methodLink "ButlerRemembersLaw" (83 : Nat) ({ cls := "ButlerRemembers", name := "wrong", desc := "()I" } : Jvm.MethodName)) ∈ tblG := tblG_at 769 (by decide +kernel) (by decide +kernel)
theorem w770 : (Cond.instanceMethod ({ cls := "ButlerRemembers", name := "wrong", desc := "()I" } : Jvm.MethodName)) ∈ tblG := tblG_at 770 (by decide +kernel) (by decide +kernel)
theorem w771 : (Cond.selects "ButlerRemembers" ({ cls := "ButlerRemembers", name := "wrong", desc := "()I" } : Jvm.MethodName) ({ cls := "ButlerRemembers", name := "wrong", desc := "()I" } : Jvm.MethodName)) ∈ tblG := tblG_at 771 (by decide +kernel) (by decide +kernel)
theorem w772 : (Cond.code ({ cls := "ButlerRemembers", name := "wrong", desc := "()I" } : Jvm.MethodName) prog_1_method_18_code (3 : Nat) (Option.some Jvm.ClassFile.FieldType.int)) ∈ tblG := tblG_at 772 (by decide +kernel) (by decide +kernel)
theorem mL_83 : zKV RL 83 11 yX11_wrong cX11_wrong 3 (some .int) 0 := ⟨⟨_, _, rfl⟩, w769, w770, w771, w68, w772, by decide, by decide, by decide, by decide +kernel⟩
theorem w1330 : (Cond.methodLink "ButlerRemembersLaw" (86 : Nat) ({ cls := "ButlerRemembersModel", name := "wrong", desc := "()I" } : Jvm.MethodName)) ∈ tblG := tblG_at 1330 (by decide +kernel) (by decide +kernel)
theorem w1331 : (Cond.instanceMethod ({ cls := "ButlerRemembersModel", name := "wrong", desc := "()I" } : Jvm.MethodName)) ∈ tblG := tblG_at 1331 (by decide +kernel) (by decide +kernel)
theorem w1332 : (Cond.selects "ButlerRemembersModel" ({ cls := "ButlerRemembersModel", name := "wrong", desc := "()I" } : Jvm.MethodName) ({ cls := "ButlerRemembersModel", name := "wrong", desc := "()I" } : Jvm.MethodName)) ∈ tblG := tblG_at 1332 (by decide +kernel) (by decide +kernel)
theorem w1333 : (Cond.code ({ cls := "ButlerRemembersModel", name := "wrong", desc := "()I" } : Jvm.MethodName) prog_14_method_62_code (2 : Nat) (Option.some Jvm.ClassFile.FieldType.int)) ∈ tblG := tblG_at 1333 (by decide +kernel) (by decide +kernel)
theorem mL_86 : zKV RL 86 12 yX12_wrong cX12_wrong 2 (some .int) 0 := ⟨⟨_, _, rfl⟩, w1330, w1331, w1332, w80, w1333, by decide, by decide, by decide, by decide +kernel⟩
theorem w777 : (Cond.methodLink "ButlerRemembersLaw" (87 : Nat) ({ cls := "ButlerRemembers", name := "can", desc := "(II)I" } : Jvm.MethodName)) ∈ tblG := tblG_at 777 (by decide +kernel) (by decide +kernel)
theorem w778 : (Cond.instanceMethod ({ cls := "ButlerRemembers", name := "can", desc := "(II)I" } : Jvm.MethodName)) ∈ tblG := tblG_at 778 (by decide +kernel) (by decide +kernel)
theorem w779 : (Cond.selects "ButlerRemembers" ({ cls := "ButlerRemembers", name := "can", desc := "(II)I" } : Jvm.MethodName) ({ cls := "ButlerRemembers", name := "can", desc := "(II)I" } : Jvm.MethodName)) ∈ tblG := tblG_at 779 (by decide +kernel) (by decide +kernel)
theorem w780 : (Cond.code ({ cls := "ButlerRemembers", name := "can", desc := "(II)I" } : Jvm.MethodName) prog_1_method_19_code (6 : Nat) (Option.some Jvm.ClassFile.FieldType.int)) ∈ tblG := tblG_at 780 (by decide +kernel) (by decide +kernel)
theorem mL_87 : zKV RL 87 11 yX11_can cX11_can 6 (some .int) 2 := ⟨⟨_, _, rfl⟩, w777, w778, w779, w68, w780, by decide, by decide, by decide, by decide +kernel⟩
theorem w1338 : (Cond.methodLink "ButlerRemembersLaw" (90 : Nat) ({ cls := "ButlerRemembersModel", name := "can", desc := "(II)I" } : Jvm.MethodName)) ∈ tblG := tblG_at 1338 (by decide +kernel) (by decide +kernel)
theorem w1339 : (Cond.instanceMethod ({ cls := "ButlerRemembersModel", name := "can", desc := "(II)I" } : Jvm.MethodName)) ∈ tblG := tblG_at 1339 (by decide +kernel) (by decide +kernel)
theorem w1340 : (Cond.selects "ButlerRemembersModel" ({ cls := "ButlerRemembersModel", name := "can", desc := "(II)I" } : Jvm.MethodName) ({ cls := "ButlerRemembersModel", name := "can", desc := "(II)I" } : Jvm.MethodName)) ∈ tblG := tblG_at 1340 (by decide +kernel) (by decide +kernel)
theorem w1341 : (Cond.code ({ cls := "ButlerRemembersModel", name := "can", desc := "(II)I" } : Jvm.MethodName) prog_14_method_63_code (9 : Nat) (Option.some Jvm.ClassFile.FieldType.int)) ∈ tblG := tblG_at 1341 (by decide +kernel) (by decide +kernel)
theorem mL_90 : zKV RL 90 12 yX12_can cX12_can 9 (some .int) 2 := ⟨⟨_, _, rfl⟩, w1338, w1339, w1340, w80, w1341, by decide, by decide, by decide, by decide +kernel⟩
theorem w788 : (Cond.methodLink "ButlerRemembersLaw" (91 : Nat) ({ cls := "ButlerRemembers", name := "knew", desc := "(IIII)I" } : Jvm.MethodName)) ∈ tblG := tblG_at 788 (by decide +kernel) (by decide +kernel)
theorem w789 : (Cond.instanceMethod ({ cls := "ButlerRemembers", name := "knew", desc := "(IIII)I" } : Jvm.MethodName)) ∈ tblG := tblG_at 789 (by decide +kernel) (by decide +kernel)
theorem w790 : (Cond.selects "ButlerRemembers" ({ cls := "ButlerRemembers", name := "knew", desc := "(IIII)I" } : Jvm.MethodName) ({ cls := "ButlerRemembers", name := "knew", desc := "(IIII)I" } : Jvm.MethodName)) ∈ tblG := tblG_at 790 (by decide +kernel) (by decide +kernel)
theorem w791 : (Cond.code ({ cls := "ButlerRemembers", name := "knew", desc := "(IIII)I" } : Jvm.MethodName) prog_1_method_20_code (7 : Nat) (Option.some Jvm.ClassFile.FieldType.int)) ∈ tblG := tblG_at 791 (by decide +kernel) (by decide +kernel)
theorem mL_91 : zKV RL 91 11 yX11_knew cX11_knew 7 (some .int) 4 := ⟨⟨_, _, rfl⟩, w788, w789, w790, w68, w791, by decide, by decide, by decide, by decide +kernel⟩
theorem w1342 : (Cond.methodLink "ButlerRemembersLaw" (95 : Nat) ({ cls := "ButlerRemembersModel", name := "knew", desc := "(IIII)I" } : Jvm.MethodName)) ∈ tblG := tblG_at 1342 (by decide +kernel) (by decide +kernel)
theorem w1343 : (Cond.instanceMethod ({ cls := "ButlerRemembersModel", name := "knew", desc := "(IIII)I" } : Jvm.MethodName)) ∈ tblG := tblG_at 1343 (by decide +kernel) (by decide +kernel)
theorem w1344 : (Cond.selects "ButlerRemembersModel" ({ cls := "ButlerRemembersModel", name := "knew", desc := "(IIII)I" } : Jvm.MethodName) ({ cls := "ButlerRemembersModel", name := "knew", desc := "(IIII)I" } : Jvm.MethodName)) ∈ tblG := tblG_at 1344 (by decide +kernel) (by decide +kernel)
theorem w1345 : (Cond.code ({ cls := "ButlerRemembersModel", name := "knew", desc := "(IIII)I" } : Jvm.MethodName) prog_14_method_64_code (10 : Nat) (Option.some Jvm.ClassFile.FieldType.int)) ∈ tblG := tblG_at 1345 (by decide +kernel) (by decide +kernel)
theorem mL_95 : zKV RL 95 12 yX12_knew cX12_knew 10 (some .int) 4 := ⟨⟨_, _, rfl⟩, w1342, w1343, w1344, w80, w1345, by decide, by decide, by decide, by decide +kernel⟩
theorem w792 : (Cond.methodLink "ButlerRemembersLaw" (96 : Nat) ({ cls := "ButlerRemembers", name := "odds", desc := "(II)J" } : Jvm.MethodName)) ∈ tblG := tblG_at 792 (by decide +kernel) (by decide +kernel)
theorem w793 : (Cond.instanceMethod ({ cls := "ButlerRemembers", name := "odds", desc := "(II)J" } : Jvm.MethodName)) ∈ tblG := tblG_at 793 (by decide +kernel) (by decide +kernel)
theorem w794 : (Cond.selects "ButlerRemembers" ({ cls := "ButlerRemembers", name := "odds", desc := "(II)J" } : Jvm.MethodName) ({ cls := "ButlerRemembers", name := "odds", desc := "(II)J" } : Jvm.MethodName)) ∈ tblG := tblG_at 794 (by decide +kernel) (by decide +kernel)
theorem w795 : (Cond.code ({ cls := "ButlerRemembers", name := "odds", desc := "(II)J" } : Jvm.MethodName) prog_1_method_21_code (5 : Nat) (Option.some Jvm.ClassFile.FieldType.long)) ∈ tblG := tblG_at 795 (by decide +kernel) (by decide +kernel)
theorem mL_96 : zKV RL 96 11 yX11_odds cX11_odds 5 (some .long) 2 := ⟨⟨_, _, rfl⟩, w792, w793, w794, w68, w795, by decide, by decide, by decide, by decide +kernel⟩
theorem w1346 : (Cond.methodLink "ButlerRemembersLaw" (100 : Nat) ({ cls := "ButlerRemembersModel", name := "odds", desc := "(II)J" } : Jvm.MethodName)) ∈ tblG := tblG_at 1346 (by decide +kernel) (by decide +kernel)
theorem w1347 : (Cond.instanceMethod ({ cls := "ButlerRemembersModel", name := "odds", desc := "(II)J" } : Jvm.MethodName)) ∈ tblG := tblG_at 1347 (by decide +kernel) (by decide +kernel)
theorem w1348 : (Cond.selects "ButlerRemembersModel" ({ cls := "ButlerRemembersModel", name := "odds", desc := "(II)J" } : Jvm.MethodName) ({ cls := "ButlerRemembersModel", name := "odds", desc := "(II)J" } : Jvm.MethodName)) ∈ tblG := tblG_at 1348 (by decide +kernel) (by decide +kernel)
theorem w1349 : (Cond.code ({ cls := "ButlerRemembersModel", name := "odds", desc := "(II)J" } : Jvm.MethodName) prog_14_method_66_code (5 : Nat) (Option.some Jvm.ClassFile.FieldType.long)) ∈ tblG := tblG_at 1349 (by decide +kernel) (by decide +kernel)
theorem mL_100 : zKV RL 100 12 yX12_odds cX12_odds 5 (some .long) 2 := ⟨⟨_, _, rfl⟩, w1346, w1347, w1348, w80, w1349, by decide, by decide, by decide, by decide +kernel⟩
theorem w800 : (Cond.methodLink "ButlerRemembersLaw" (101 : Nat) ({ cls := "ButlerRemembers", name := "mean", desc := "(II)J" } : Jvm.MethodName)) ∈ tblG := tblG_at 800 (by decide +kernel) (by decide +kernel)
theorem w801 : (Cond.instanceMethod ({ cls := "ButlerRemembers", name := "mean", desc := "(II)J" } : Jvm.MethodName)) ∈ tblG := tblG_at 801 (by decide +kernel) (by decide +kernel)
theorem w802 : (Cond.selects "ButlerRemembers" ({ cls := "ButlerRemembers", name := "mean", desc := "(II)J" } : Jvm.MethodName) ({ cls := "ButlerRemembers", name := "mean", desc := "(II)J" } : Jvm.MethodName)) ∈ tblG := tblG_at 802 (by decide +kernel) (by decide +kernel)
theorem w803 : (Cond.code ({ cls := "ButlerRemembers", name := "mean", desc := "(II)J" } : Jvm.MethodName) prog_1_method_22_code (3 : Nat) (Option.some Jvm.ClassFile.FieldType.long)) ∈ tblG := tblG_at 803 (by decide +kernel) (by decide +kernel)
theorem mL_101 : zKV RL 101 11 yX11_mean cX11_mean 3 (some .long) 2 := ⟨⟨_, _, rfl⟩, w800, w801, w802, w68, w803, by decide, by decide, by decide, by decide +kernel⟩
theorem w1354 : (Cond.methodLink "ButlerRemembersLaw" (104 : Nat) ({ cls := "ButlerRemembersModel", name := "mean", desc := "(II)J" } : Jvm.MethodName)) ∈ tblG := tblG_at 1354 (by decide +kernel) (by decide +kernel)
theorem w1355 : (Cond.instanceMethod ({ cls := "ButlerRemembersModel", name := "mean", desc := "(II)J" } : Jvm.MethodName)) ∈ tblG := tblG_at 1355 (by decide +kernel) (by decide +kernel)
theorem w1356 : (Cond.selects "ButlerRemembersModel" ({ cls := "ButlerRemembersModel", name := "mean", desc := "(II)J" } : Jvm.MethodName) ({ cls := "ButlerRemembersModel", name := "mean", desc := "(II)J" } : Jvm.MethodName)) ∈ tblG := tblG_at 1356 (by decide +kernel) (by decide +kernel)
theorem w1357 : (Cond.code ({ cls := "ButlerRemembersModel", name := "mean", desc := "(II)J" } : Jvm.MethodName) prog_14_method_67_code (3 : Nat) (Option.some Jvm.ClassFile.FieldType.long)) ∈ tblG := tblG_at 1357 (by decide +kernel) (by decide +kernel)
theorem mL_104 : zKV RL 104 12 yX12_mean cX12_mean 3 (some .long) 2 := ⟨⟨_, _, rfl⟩, w1354, w1355, w1356, w80, w1357, by decide, by decide, by decide, by decide +kernel⟩
theorem w804 : (Cond.methodLink "ButlerRemembersLaw" (105 : Nat) ({ cls := "ButlerRemembers", name := "plan", desc := "(II)I" } : Jvm.MethodName)) ∈ tblG := tblG_at 804 (by decide +kernel) (by decide +kernel)
theorem w805 : (Cond.instanceMethod ({ cls := "ButlerRemembers", name := "plan", desc := "(II)I" } : Jvm.MethodName)) ∈ tblG := tblG_at 805 (by decide +kernel) (by decide +kernel)
theorem w806 : (Cond.selects "ButlerRemembers" ({ cls := "ButlerRemembers", name := "plan", desc := "(II)I" } : Jvm.MethodName) ({ cls := "ButlerRemembers", name := "plan", desc := "(II)I" } : Jvm.MethodName)) ∈ tblG := tblG_at 806 (by decide +kernel) (by decide +kernel)
theorem w807 : (Cond.code ({ cls := "ButlerRemembers", name := "plan", desc := "(II)I" } : Jvm.MethodName) prog_1_method_23_code (3 : Nat) (Option.some Jvm.ClassFile.FieldType.int)) ∈ tblG := tblG_at 807 (by decide +kernel) (by decide +kernel)
theorem mL_105 : zKV RL 105 11 yX11_plan cX11_plan 3 (some .int) 2 := ⟨⟨_, _, rfl⟩, w804, w805, w806, w68, w807, by decide, by decide, by decide, by decide +kernel⟩
theorem w1359 : (Cond.methodLink "ButlerRemembersLaw" (108 : Nat) ({ cls := "ButlerRemembersModel", name := "plan", desc := "(II)I" } : Jvm.MethodName)) ∈ tblG := tblG_at 1359 (by decide +kernel) (by decide +kernel)
theorem w1360 : (Cond.instanceMethod ({ cls := "ButlerRemembersModel", name := "plan", desc := "(II)I" } : Jvm.MethodName)) ∈ tblG := tblG_at 1360 (by decide +kernel) (by decide +kernel)
theorem w1361 : (Cond.selects "ButlerRemembersModel" ({ cls := "ButlerRemembersModel", name := "plan", desc := "(II)I" } : Jvm.MethodName) ({ cls := "ButlerRemembersModel", name := "plan", desc := "(II)I" } : Jvm.MethodName)) ∈ tblG := tblG_at 1361 (by decide +kernel) (by decide +kernel)
theorem w1362 : (Cond.code ({ cls := "ButlerRemembersModel", name := "plan", desc := "(II)I" } : Jvm.MethodName) prog_14_method_68_code (4 : Nat) (Option.some Jvm.ClassFile.FieldType.int)) ∈ tblG := tblG_at 1362 (by decide +kernel) (by decide +kernel)
theorem mL_108 : zKV RL 108 12 yX12_plan cX12_plan 4 (some .int) 2 := ⟨⟨_, _, rfl⟩, w1359, w1360, w1361, w80, w1362, by decide, by decide, by decide, by decide +kernel⟩
theorem w812 : (Cond.methodLink "ButlerRemembersLaw" (109 : Nat) ({ cls := "ButlerRemembers", name := "ends", desc := "(I)I" } : Jvm.MethodName)) ∈ tblG := tblG_at 812 (by decide +kernel) (by decide +kernel)
theorem w813 : (Cond.instanceMethod ({ cls := "ButlerRemembers", name := "ends", desc := "(I)I" } : Jvm.MethodName)) ∈ tblG := tblG_at 813 (by decide +kernel) (by decide +kernel)
theorem w814 : (Cond.selects "ButlerRemembers" ({ cls := "ButlerRemembers", name := "ends", desc := "(I)I" } : Jvm.MethodName) ({ cls := "ButlerRemembers", name := "ends", desc := "(I)I" } : Jvm.MethodName)) ∈ tblG := tblG_at 814 (by decide +kernel) (by decide +kernel)
theorem w815 : (Cond.code ({ cls := "ButlerRemembers", name := "ends", desc := "(I)I" } : Jvm.MethodName) prog_1_method_24_code (4 : Nat) (Option.some Jvm.ClassFile.FieldType.int)) ∈ tblG := tblG_at 815 (by decide +kernel) (by decide +kernel)
theorem mL_109 : zKV RL 109 11 yX11_ends cX11_ends 4 (some .int) 1 := ⟨⟨_, _, rfl⟩, w812, w813, w814, w68, w815, by decide, by decide, by decide, by decide +kernel⟩
theorem w1363 : (Cond.methodLink "ButlerRemembersLaw" (112 : Nat) ({ cls := "ButlerRemembersModel", name := "ends", desc := "(I)I" } : Jvm.MethodName)) ∈ tblG := tblG_at 1363 (by decide +kernel) (by decide +kernel)
theorem w1364 : (Cond.instanceMethod ({ cls := "ButlerRemembersModel", name := "ends", desc := "(I)I" } : Jvm.MethodName)) ∈ tblG := tblG_at 1364 (by decide +kernel) (by decide +kernel)
theorem w1365 : (Cond.selects "ButlerRemembersModel" ({ cls := "ButlerRemembersModel", name := "ends", desc := "(I)I" } : Jvm.MethodName) ({ cls := "ButlerRemembersModel", name := "ends", desc := "(I)I" } : Jvm.MethodName)) ∈ tblG := tblG_at 1365 (by decide +kernel) (by decide +kernel)
theorem w1366 : (Cond.code ({ cls := "ButlerRemembersModel", name := "ends", desc := "(I)I" } : Jvm.MethodName) prog_14_method_69_code (5 : Nat) (Option.some Jvm.ClassFile.FieldType.int)) ∈ tblG := tblG_at 1366 (by decide +kernel) (by decide +kernel)
theorem mL_112 : zKV RL 112 12 yX12_ends cX12_ends 5 (some .int) 1 := ⟨⟨_, _, rfl⟩, w1363, w1364, w1365, w80, w1366, by decide, by decide, by decide, by decide +kernel⟩
theorem w820 : (Cond.methodLink "ButlerRemembersLaw" (113 : Nat) ({ cls := "ButlerRemembers", name := "book", desc := "(II)I" } : Jvm.MethodName)) ∈ tblG := tblG_at 820 (by decide +kernel) (by decide +kernel)
theorem w821 : (Cond.instanceMethod ({ cls := "ButlerRemembers", name := "book", desc := "(II)I" } : Jvm.MethodName)) ∈ tblG := tblG_at 821 (by decide +kernel) (by decide +kernel)
theorem w822 : (Cond.selects "ButlerRemembers" ({ cls := "ButlerRemembers", name := "book", desc := "(II)I" } : Jvm.MethodName) ({ cls := "ButlerRemembers", name := "book", desc := "(II)I" } : Jvm.MethodName)) ∈ tblG := tblG_at 822 (by decide +kernel) (by decide +kernel)
theorem w823 : (Cond.code ({ cls := "ButlerRemembers", name := "book", desc := "(II)I" } : Jvm.MethodName) prog_1_method_25_code (3 : Nat) (Option.some Jvm.ClassFile.FieldType.int)) ∈ tblG := tblG_at 823 (by decide +kernel) (by decide +kernel)
theorem mL_113 : zKV RL 113 11 yX11_book cX11_book 3 (some .int) 2 := ⟨⟨_, _, rfl⟩, w820, w821, w822, w68, w823, by decide, by decide, by decide, by decide +kernel⟩
theorem w1367 : (Cond.methodLink "ButlerRemembersLaw" (116 : Nat) ({ cls := "ButlerRemembersModel", name := "book", desc := "(II)I" } : Jvm.MethodName)) ∈ tblG := tblG_at 1367 (by decide +kernel) (by decide +kernel)
theorem w1368 : (Cond.instanceMethod ({ cls := "ButlerRemembersModel", name := "book", desc := "(II)I" } : Jvm.MethodName)) ∈ tblG := tblG_at 1368 (by decide +kernel) (by decide +kernel)
theorem w1369 : (Cond.selects "ButlerRemembersModel" ({ cls := "ButlerRemembersModel", name := "book", desc := "(II)I" } : Jvm.MethodName) ({ cls := "ButlerRemembersModel", name := "book", desc := "(II)I" } : Jvm.MethodName)) ∈ tblG := tblG_at 1369 (by decide +kernel) (by decide +kernel)
theorem w1370 : (Cond.code ({ cls := "ButlerRemembersModel", name := "book", desc := "(II)I" } : Jvm.MethodName) prog_14_method_70_code (3 : Nat) (Option.some Jvm.ClassFile.FieldType.int)) ∈ tblG := tblG_at 1370 (by decide +kernel) (by decide +kernel)
theorem mL_116 : zKV RL 116 12 yX12_book cX12_book 3 (some .int) 2 := ⟨⟨_, _, rfl⟩, w1367, w1368, w1369, w80, w1370, by decide, by decide, by decide, by decide +kernel⟩
theorem w828 : (Cond.methodLink "ButlerRemembersLaw" (117 : Nat) ({ cls := "ButlerRemembers", name := "looked", desc := "()I" } : Jvm.MethodName)) ∈ tblG := tblG_at 828 (by decide +kernel) (by decide +kernel)
theorem w829 : (Cond.instanceMethod ({ cls := "ButlerRemembers", name := "looked", desc := "()I" } : Jvm.MethodName)) ∈ tblG := tblG_at 829 (by decide +kernel) (by decide +kernel)
theorem w830 : (Cond.selects "ButlerRemembers" ({ cls := "ButlerRemembers", name := "looked", desc := "()I" } : Jvm.MethodName) ({ cls := "ButlerRemembers", name := "looked", desc := "()I" } : Jvm.MethodName)) ∈ tblG := tblG_at 830 (by decide +kernel) (by decide +kernel)
theorem w831 : (Cond.code ({ cls := "ButlerRemembers", name := "looked", desc := "()I" } : Jvm.MethodName) prog_1_method_26_code (3 : Nat) (Option.some Jvm.ClassFile.FieldType.int)) ∈ tblG := tblG_at 831 (by decide +kernel) (by decide +kernel)
theorem mL_117 : zKV RL 117 11 yX11_looked cX11_looked 3 (some .int) 0 := ⟨⟨_, _, rfl⟩, w828, w829, w830, w68, w831, by decide, by decide, by decide, by decide +kernel⟩
theorem w1371 : (Cond.methodLink "ButlerRemembersLaw" (120 : Nat) ({ cls := "ButlerRemembersModel", name := "looked", desc := "()I" } : Jvm.MethodName)) ∈ tblG := tblG_at 1371 (by decide +kernel) (by decide +kernel)
theorem w1372 : (Cond.instanceMethod ({ cls := "ButlerRemembersModel", name := "looked", desc := "()I" } : Jvm.MethodName)) ∈ tblG := tblG_at 1372 (by decide +kernel) (by decide +kernel)
theorem w1373 : (Cond.selects "ButlerRemembersModel" ({ cls := "ButlerRemembersModel", name := "looked", desc := "()I" } : Jvm.MethodName) ({ cls := "ButlerRemembersModel", name := "looked", desc := "()I" } : Jvm.MethodName)) ∈ tblG := tblG_at 1373 (by decide +kernel) (by decide +kernel)
theorem w1374 : (Cond.code ({ cls := "ButlerRemembersModel", name := "looked", desc := "()I" } : Jvm.MethodName) prog_14_method_71_code (2 : Nat) (Option.some Jvm.ClassFile.FieldType.int)) ∈ tblG := tblG_at 1374 (by decide +kernel) (by decide +kernel)
theorem mL_120 : zKV RL 120 12 yX12_looked cX12_looked 2 (some .int) 0 := ⟨⟨_, _, rfl⟩, w1371, w1372, w1373, w80, w1374, by decide, by decide, by decide, by decide +kernel⟩
theorem w832 : (Cond.methodLink "ButlerRemembersLaw" (121 : Nat) ({ cls := "ButlerRemembers", name := "judge", desc := "(II)I" } : Jvm.MethodName)) ∈ tblG := tblG_at 832 (by decide +kernel) (by decide +kernel)
theorem w833 : (Cond.instanceMethod ({ cls := "ButlerRemembers", name := "judge", desc := "(II)I" } : Jvm.MethodName)) ∈ tblG := tblG_at 833 (by decide +kernel) (by decide +kernel)
theorem w834 : (Cond.selects "ButlerRemembers" ({ cls := "ButlerRemembers", name := "judge", desc := "(II)I" } : Jvm.MethodName) ({ cls := "ButlerRemembers", name := "judge", desc := "(II)I" } : Jvm.MethodName)) ∈ tblG := tblG_at 834 (by decide +kernel) (by decide +kernel)
theorem w835 : (Cond.code ({ cls := "ButlerRemembers", name := "judge", desc := "(II)I" } : Jvm.MethodName) prog_1_method_27_code (7 : Nat) (Option.some Jvm.ClassFile.FieldType.int)) ∈ tblG := tblG_at 835 (by decide +kernel) (by decide +kernel)
theorem mL_121 : zKV RL 121 11 yX11_judge cX11_judge 7 (some .int) 2 := ⟨⟨_, _, rfl⟩, w832, w833, w834, w68, w835, by decide, by decide, by decide, by decide +kernel⟩
theorem w1423 : (Cond.methodLink "ButlerRemembersLaw" (124 : Nat) ({ cls := "ButlerRemembersModel", name := "judge", desc := "(II)I" } : Jvm.MethodName)) ∈ tblG := tblG_at 1423 (by decide +kernel) (by decide +kernel)
theorem w1424 : (Cond.instanceMethod ({ cls := "ButlerRemembersModel", name := "judge", desc := "(II)I" } : Jvm.MethodName)) ∈ tblG := tblG_at 1424 (by decide +kernel) (by decide +kernel)
theorem w1425 : (Cond.selects "ButlerRemembersModel" ({ cls := "ButlerRemembersModel", name := "judge", desc := "(II)I" } : Jvm.MethodName) ({ cls := "ButlerRemembersModel", name := "judge", desc := "(II)I" } : Jvm.MethodName)) ∈ tblG := tblG_at 1425 (by decide +kernel) (by decide +kernel)
theorem w1426 : (Cond.code ({ cls := "ButlerRemembersModel", name := "judge", desc := "(II)I" } : Jvm.MethodName) prog_14_method_84_code (6 : Nat) (Option.some Jvm.ClassFile.FieldType.int)) ∈ tblG := tblG_at 1426 (by decide +kernel) (by decide +kernel)
theorem mL_124 : zKV RL 124 12 yX12_judge cX12_judge 6 (some .int) 2 := ⟨⟨_, _, rfl⟩, w1423, w1424, w1425, w80, w1426, by decide, by decide, by decide, by decide +kernel⟩
theorem w848 : (Cond.methodLink "ButlerRemembersLaw" (125 : Nat) ({ cls := "ButlerRemembers", name := "image", desc := "()I" } : Jvm.MethodName)) ∈ tblG := tblG_at 848 (by decide +kernel) (by decide +kernel)
theorem w849 : (Cond.instanceMethod ({ cls := "ButlerRemembers", name := "image", desc := "()I" } : Jvm.MethodName)) ∈ tblG := tblG_at 849 (by decide +kernel) (by decide +kernel)
theorem w850 : (Cond.selects "ButlerRemembers" ({ cls := "ButlerRemembers", name := "image", desc := "()I" } : Jvm.MethodName) ({ cls := "ButlerRemembers", name := "image", desc := "()I" } : Jvm.MethodName)) ∈ tblG := tblG_at 850 (by decide +kernel) (by decide +kernel)
theorem w851 : (Cond.code ({ cls := "ButlerRemembers", name := "image", desc := "()I" } : Jvm.MethodName) prog_1_method_28_code (1 : Nat) (Option.some Jvm.ClassFile.FieldType.int)) ∈ tblG := tblG_at 851 (by decide +kernel) (by decide +kernel)
theorem mL_125 : zKV RL 125 11 yX11_image cX11_image 1 (some .int) 0 := ⟨⟨_, _, rfl⟩, w848, w849, w850, w68, w851, by decide, by decide, by decide, by decide +kernel⟩
theorem w1098 : (Cond.methodLink "ButlerRemembersLaw" (128 : Nat) ({ cls := "ButlerRemembersModel", name := "image", desc := "()I" } : Jvm.MethodName)) ∈ tblG := tblG_at 1098 (by decide +kernel) (by decide +kernel)
theorem w1099 : (Cond.instanceMethod ({ cls := "ButlerRemembersModel", name := "image", desc := "()I" } : Jvm.MethodName)) ∈ tblG := tblG_at 1099 (by decide +kernel) (by decide +kernel)
theorem w1100 : (Cond.selects "ButlerRemembersModel" ({ cls := "ButlerRemembersModel", name := "image", desc := "()I" } : Jvm.MethodName) ({ cls := "ButlerRemembersModel", name := "image", desc := "()I" } : Jvm.MethodName)) ∈ tblG := tblG_at 1100 (by decide +kernel) (by decide +kernel)
theorem w1101 : (Cond.code ({ cls := "ButlerRemembersModel", name := "image", desc := "()I" } : Jvm.MethodName) prog_14_method_4_code (1 : Nat) (Option.some Jvm.ClassFile.FieldType.int)) ∈ tblG := tblG_at 1101 (by decide +kernel) (by decide +kernel)
theorem mL_128 : zKV RL 128 12 yX12_image cX12_image 1 (some .int) 0 := ⟨⟨_, _, rfl⟩, w1098, w1099, w1100, w80, w1101, by decide, by decide, by decide, by decide +kernel⟩
theorem w864 : (Cond.methodLink "ButlerRemembersLaw" (129 : Nat) ({ cls := "ButlerRemembers", name := "undo", desc := "()I" } : Jvm.MethodName)) ∈ tblG := tblG_at 864 (by decide +kernel) (by decide +kernel)
theorem w865 : (Cond.instanceMethod ({ cls := "ButlerRemembers", name := "undo", desc := "()I" } : Jvm.MethodName)) ∈ tblG := tblG_at 865 (by decide +kernel) (by decide +kernel)
theorem w866 : (Cond.selects "ButlerRemembers" ({ cls := "ButlerRemembers", name := "undo", desc := "()I" } : Jvm.MethodName) ({ cls := "ButlerRemembers", name := "undo", desc := "()I" } : Jvm.MethodName)) ∈ tblG := tblG_at 866 (by decide +kernel) (by decide +kernel)
theorem w867 : (Cond.code ({ cls := "ButlerRemembers", name := "undo", desc := "()I" } : Jvm.MethodName) prog_1_method_29_code (1 : Nat) (Option.some Jvm.ClassFile.FieldType.int)) ∈ tblG := tblG_at 867 (by decide +kernel) (by decide +kernel)
theorem mL_129 : zKV RL 129 11 yX11_undo cX11_undo 1 (some .int) 0 := ⟨⟨_, _, rfl⟩, w864, w865, w866, w68, w867, by decide, by decide, by decide, by decide +kernel⟩
theorem w1105 : (Cond.methodLink "ButlerRemembersLaw" (132 : Nat) ({ cls := "ButlerRemembersModel", name := "undo", desc := "()I" } : Jvm.MethodName)) ∈ tblG := tblG_at 1105 (by decide +kernel) (by decide +kernel)
theorem w1106 : (Cond.instanceMethod ({ cls := "ButlerRemembersModel", name := "undo", desc := "()I" } : Jvm.MethodName)) ∈ tblG := tblG_at 1106 (by decide +kernel) (by decide +kernel)
theorem w1107 : (Cond.selects "ButlerRemembersModel" ({ cls := "ButlerRemembersModel", name := "undo", desc := "()I" } : Jvm.MethodName) ({ cls := "ButlerRemembersModel", name := "undo", desc := "()I" } : Jvm.MethodName)) ∈ tblG := tblG_at 1107 (by decide +kernel) (by decide +kernel)
theorem w1108 : (Cond.code ({ cls := "ButlerRemembersModel", name := "undo", desc := "()I" } : Jvm.MethodName) prog_14_method_5_code (1 : Nat) (Option.some Jvm.ClassFile.FieldType.int)) ∈ tblG := tblG_at 1108 (by decide +kernel) (by decide +kernel)
theorem mL_132 : zKV RL 132 12 yX12_undo cX12_undo 1 (some .int) 0 := ⟨⟨_, _, rfl⟩, w1105, w1106, w1107, w80, w1108, by decide, by decide, by decide, by decide +kernel⟩
theorem w868 : (Cond.methodLink "ButlerRemembersLaw" (133 : Nat) ({ cls := "ButlerRemembers", name := "act", desc := "(III)I" } : Jvm.MethodName)) ∈ tblG := tblG_at 868 (by decide +kernel) (by decide +kernel)
theorem w869 : (Cond.instanceMethod ({ cls := "ButlerRemembers", name := "act", desc := "(III)I" } : Jvm.MethodName)) ∈ tblG := tblG_at 869 (by decide +kernel) (by decide +kernel)
theorem w870 : (Cond.selects "ButlerRemembers" ({ cls := "ButlerRemembers", name := "act", desc := "(III)I" } : Jvm.MethodName) ({ cls := "ButlerRemembers", name := "act", desc := "(III)I" } : Jvm.MethodName)) ∈ tblG := tblG_at 870 (by decide +kernel) (by decide +kernel)
theorem w871 : (Cond.code ({ cls := "ButlerRemembers", name := "act", desc := "(III)I" } : Jvm.MethodName) prog_1_method_30_code (5 : Nat) (Option.some Jvm.ClassFile.FieldType.int)) ∈ tblG := tblG_at 871 (by decide +kernel) (by decide +kernel)
theorem mL_133 : zKV RL 133 11 yX11_act cX11_act 5 (some .int) 3 := ⟨⟨_, _, rfl⟩, w868, w869, w870, w68, w871, by decide, by decide, by decide, by decide +kernel⟩
theorem w1375 : (Cond.methodLink "ButlerRemembersLaw" (136 : Nat) ({ cls := "ButlerRemembersModel", name := "act", desc := "(III)I" } : Jvm.MethodName)) ∈ tblG := tblG_at 1375 (by decide +kernel) (by decide +kernel)
theorem w1376 : (Cond.instanceMethod ({ cls := "ButlerRemembersModel", name := "act", desc := "(III)I" } : Jvm.MethodName)) ∈ tblG := tblG_at 1376 (by decide +kernel) (by decide +kernel)
theorem w1377 : (Cond.selects "ButlerRemembersModel" ({ cls := "ButlerRemembersModel", name := "act", desc := "(III)I" } : Jvm.MethodName) ({ cls := "ButlerRemembersModel", name := "act", desc := "(III)I" } : Jvm.MethodName)) ∈ tblG := tblG_at 1377 (by decide +kernel) (by decide +kernel)
theorem w1378 : (Cond.code ({ cls := "ButlerRemembersModel", name := "act", desc := "(III)I" } : Jvm.MethodName) prog_14_method_75_code (4 : Nat) (Option.some Jvm.ClassFile.FieldType.int)) ∈ tblG := tblG_at 1378 (by decide +kernel) (by decide +kernel)
theorem mL_136 : zKV RL 136 12 yX12_act cX12_act 4 (some .int) 3 := ⟨⟨_, _, rfl⟩, w1375, w1376, w1377, w80, w1378, by decide, by decide, by decide, by decide +kernel⟩
theorem w955 : (Cond.methodLink "ButlerRemembersLaw" (137 : Nat) ({ cls := "ButlerRemembers", name := "trace", desc := "(I)I" } : Jvm.MethodName)) ∈ tblG := tblG_at 955 (by decide +kernel) (by decide +kernel)
theorem w956 : (Cond.instanceMethod ({ cls := "ButlerRemembers", name := "trace", desc := "(I)I" } : Jvm.MethodName)) ∈ tblG := tblG_at 956 (by decide +kernel) (by decide +kernel)
theorem w957 : (Cond.selects "ButlerRemembers" ({ cls := "ButlerRemembers", name := "trace", desc := "(I)I" } : Jvm.MethodName) ({ cls := "ButlerRemembers", name := "trace", desc := "(I)I" } : Jvm.MethodName)) ∈ tblG := tblG_at 957 (by decide +kernel) (by decide +kernel)
theorem w958 : (Cond.code ({ cls := "ButlerRemembers", name := "trace", desc := "(I)I" } : Jvm.MethodName) prog_1_method_31_code (2 : Nat) (Option.some Jvm.ClassFile.FieldType.int)) ∈ tblG := tblG_at 958 (by decide +kernel) (by decide +kernel)
theorem mL_137 : zKV RL 137 11 yX11_trace cX11_trace 2 (some .int) 1 := ⟨⟨_, _, rfl⟩, w955, w956, w957, w68, w958, by decide, by decide, by decide, by decide +kernel⟩
theorem w1391 : (Cond.methodLink "ButlerRemembersLaw" (140 : Nat) ({ cls := "ButlerRemembersModel", name := "trace", desc := "(I)I" } : Jvm.MethodName)) ∈ tblG := tblG_at 1391 (by decide +kernel) (by decide +kernel)
theorem w1392 : (Cond.instanceMethod ({ cls := "ButlerRemembersModel", name := "trace", desc := "(I)I" } : Jvm.MethodName)) ∈ tblG := tblG_at 1392 (by decide +kernel) (by decide +kernel)
theorem w1393 : (Cond.selects "ButlerRemembersModel" ({ cls := "ButlerRemembersModel", name := "trace", desc := "(I)I" } : Jvm.MethodName) ({ cls := "ButlerRemembersModel", name := "trace", desc := "(I)I" } : Jvm.MethodName)) ∈ tblG := tblG_at 1393 (by decide +kernel) (by decide +kernel)
theorem w1394 : (Cond.code ({ cls := "ButlerRemembersModel", name := "trace", desc := "(I)I" } : Jvm.MethodName) prog_14_method_76_code (2 : Nat) (Option.some Jvm.ClassFile.FieldType.int)) ∈ tblG := tblG_at 1394 (by decide +kernel) (by decide +kernel)
theorem mL_140 : zKV RL 140 12 yX12_trace cX12_trace 2 (some .int) 1 := ⟨⟨_, _, rfl⟩, w1391, w1392, w1393, w80, w1394, by decide, by decide, by decide, by decide +kernel⟩
theorem w964 : (Cond.methodLink "ButlerRemembersLaw" (141 : Nat) ({ cls := "ButlerRemembers", name := "taken", desc := "(II)I" } : Jvm.MethodName)) ∈ tblG := tblG_at 964 (by decide +kernel) (by decide +kernel)
theorem w965 : (Cond.instanceMethod ({ cls := "ButlerRemembers", name := "taken", desc := "(II)I" } : Jvm.MethodName)) ∈ tblG := tblG_at 965 (by decide +kernel) (by decide +kernel)
theorem w966 : (Cond.selects "ButlerRemembers" ({ cls := "ButlerRemembers", name := "taken", desc := "(II)I" } : Jvm.MethodName) ({ cls := "ButlerRemembers", name := "taken", desc := "(II)I" } : Jvm.MethodName)) ∈ tblG := tblG_at 966 (by decide +kernel) (by decide +kernel)
theorem w967 : (Cond.code ({ cls := "ButlerRemembers", name := "taken", desc := "(II)I" } : Jvm.MethodName) prog_1_method_32_code (3 : Nat) (Option.some Jvm.ClassFile.FieldType.int)) ∈ tblG := tblG_at 967 (by decide +kernel) (by decide +kernel)
theorem mL_141 : zKV RL 141 11 yX11_taken cX11_taken 3 (some .int) 2 := ⟨⟨_, _, rfl⟩, w964, w965, w966, w68, w967, by decide, by decide, by decide, by decide +kernel⟩
theorem w1396 : (Cond.methodLink "ButlerRemembersLaw" (144 : Nat) ({ cls := "ButlerRemembersModel", name := "taken", desc := "(II)I" } : Jvm.MethodName)) ∈ tblG := tblG_at 1396 (by decide +kernel) (by decide +kernel)
theorem w1397 : (Cond.instanceMethod ({ cls := "ButlerRemembersModel", name := "taken", desc := "(II)I" } : Jvm.MethodName)) ∈ tblG := tblG_at 1397 (by decide +kernel) (by decide +kernel)
theorem w1398 : (Cond.selects "ButlerRemembersModel" ({ cls := "ButlerRemembersModel", name := "taken", desc := "(II)I" } : Jvm.MethodName) ({ cls := "ButlerRemembersModel", name := "taken", desc := "(II)I" } : Jvm.MethodName)) ∈ tblG := tblG_at 1398 (by decide +kernel) (by decide +kernel)
theorem w1399 : (Cond.code ({ cls := "ButlerRemembersModel", name := "taken", desc := "(II)I" } : Jvm.MethodName) prog_14_method_77_code (4 : Nat) (Option.some Jvm.ClassFile.FieldType.int)) ∈ tblG := tblG_at 1399 (by decide +kernel) (by decide +kernel)
theorem mL_144 : zKV RL 144 12 yX12_taken cX12_taken 4 (some .int) 2 := ⟨⟨_, _, rfl⟩, w1396, w1397, w1398, w80, w1399, by decide, by decide, by decide, by decide +kernel⟩
theorem w971 : (Cond.methodLink "ButlerRemembersLaw" (145 : Nat) ({ cls := "ButlerRemembers", name := "count", desc := "(I)I" } : Jvm.MethodName)) ∈ tblG := tblG_at 971 (by decide +kernel) (by decide +kernel)
theorem w972 : (Cond.instanceMethod ({ cls := "ButlerRemembers", name := "count", desc := "(I)I" } : Jvm.MethodName)) ∈ tblG := tblG_at 972 (by decide +kernel) (by decide +kernel)
theorem w973 : (Cond.selects "ButlerRemembers" ({ cls := "ButlerRemembers", name := "count", desc := "(I)I" } : Jvm.MethodName) ({ cls := "ButlerRemembers", name := "count", desc := "(I)I" } : Jvm.MethodName)) ∈ tblG := tblG_at 973 (by decide +kernel) (by decide +kernel)
theorem w974 : (Cond.code ({ cls := "ButlerRemembers", name := "count", desc := "(I)I" } : Jvm.MethodName) prog_1_method_33_code (2 : Nat) (Option.some Jvm.ClassFile.FieldType.int)) ∈ tblG := tblG_at 974 (by decide +kernel) (by decide +kernel)
theorem mL_145 : zKV RL 145 11 yX11_count cX11_count 2 (some .int) 1 := ⟨⟨_, _, rfl⟩, w971, w972, w973, w68, w974, by decide, by decide, by decide, by decide +kernel⟩
theorem w1400 : (Cond.methodLink "ButlerRemembersLaw" (148 : Nat) ({ cls := "ButlerRemembersModel", name := "count", desc := "(I)I" } : Jvm.MethodName)) ∈ tblG := tblG_at 1400 (by decide +kernel) (by decide +kernel)
theorem w1401 : (Cond.instanceMethod ({ cls := "ButlerRemembersModel", name := "count", desc := "(I)I" } : Jvm.MethodName)) ∈ tblG := tblG_at 1401 (by decide +kernel) (by decide +kernel)
theorem w1402 : (Cond.selects "ButlerRemembersModel" ({ cls := "ButlerRemembersModel", name := "count", desc := "(I)I" } : Jvm.MethodName) ({ cls := "ButlerRemembersModel", name := "count", desc := "(I)I" } : Jvm.MethodName)) ∈ tblG := tblG_at 1402 (by decide +kernel) (by decide +kernel)
theorem w1403 : (Cond.code ({ cls := "ButlerRemembersModel", name := "count", desc := "(I)I" } : Jvm.MethodName) prog_14_method_78_code (2 : Nat) (Option.some Jvm.ClassFile.FieldType.int)) ∈ tblG := tblG_at 1403 (by decide +kernel) (by decide +kernel)
theorem mL_148 : zKV RL 148 12 yX12_count cX12_count 2 (some .int) 1 := ⟨⟨_, _, rfl⟩, w1400, w1401, w1402, w80, w1403, by decide, by decide, by decide, by decide +kernel⟩
theorem w975 : (Cond.methodLink "ButlerRemembersLaw" (149 : Nat) ({ cls := "ButlerRemembers", name := "tape", desc := "(III)I" } : Jvm.MethodName)) ∈ tblG := tblG_at 975 (by decide +kernel) (by decide +kernel)
theorem w976 : (Cond.instanceMethod ({ cls := "ButlerRemembers", name := "tape", desc := "(III)I" } : Jvm.MethodName)) ∈ tblG := tblG_at 976 (by decide +kernel) (by decide +kernel)
theorem w977 : (Cond.selects "ButlerRemembers" ({ cls := "ButlerRemembers", name := "tape", desc := "(III)I" } : Jvm.MethodName) ({ cls := "ButlerRemembers", name := "tape", desc := "(III)I" } : Jvm.MethodName)) ∈ tblG := tblG_at 977 (by decide +kernel) (by decide +kernel)
theorem w978 : (Cond.code ({ cls := "ButlerRemembers", name := "tape", desc := "(III)I" } : Jvm.MethodName) prog_1_method_34_code (4 : Nat) (Option.some Jvm.ClassFile.FieldType.int)) ∈ tblG := tblG_at 978 (by decide +kernel) (by decide +kernel)
theorem mL_149 : zKV RL 149 11 yX11_tape cX11_tape 4 (some .int) 3 := ⟨⟨_, _, rfl⟩, w975, w976, w977, w68, w978, by decide, by decide, by decide, by decide +kernel⟩
theorem w1404 : (Cond.methodLink "ButlerRemembersLaw" (152 : Nat) ({ cls := "ButlerRemembersModel", name := "tape", desc := "(III)I" } : Jvm.MethodName)) ∈ tblG := tblG_at 1404 (by decide +kernel) (by decide +kernel)
theorem w1405 : (Cond.instanceMethod ({ cls := "ButlerRemembersModel", name := "tape", desc := "(III)I" } : Jvm.MethodName)) ∈ tblG := tblG_at 1405 (by decide +kernel) (by decide +kernel)
theorem w1406 : (Cond.selects "ButlerRemembersModel" ({ cls := "ButlerRemembersModel", name := "tape", desc := "(III)I" } : Jvm.MethodName) ({ cls := "ButlerRemembersModel", name := "tape", desc := "(III)I" } : Jvm.MethodName)) ∈ tblG := tblG_at 1406 (by decide +kernel) (by decide +kernel)
theorem w1407 : (Cond.code ({ cls := "ButlerRemembersModel", name := "tape", desc := "(III)I" } : Jvm.MethodName) prog_14_method_80_code (5 : Nat) (Option.some Jvm.ClassFile.FieldType.int)) ∈ tblG := tblG_at 1407 (by decide +kernel) (by decide +kernel)
theorem mL_152 : zKV RL 152 12 yX12_tape cX12_tape 5 (some .int) 3 := ⟨⟨_, _, rfl⟩, w1404, w1405, w1406, w80, w1407, by decide, by decide, by decide, by decide +kernel⟩
theorem w986 : (Cond.methodLink "ButlerRemembersLaw" (155 : Nat) ({ cls := "ButlerRemembers", name := "item", desc := "(IIJ)I" } : Jvm.MethodName)) ∈ tblG := tblG_at 986 (by decide +kernel) (by decide +kernel)
theorem w987 : (Cond.instanceMethod ({ cls := "ButlerRemembers", name := "item", desc := "(IIJ)I" } : Jvm.MethodName)) ∈ tblG := tblG_at 987 (by decide +kernel) (by decide +kernel)
theorem w988 : (Cond.selects "ButlerRemembers" ({ cls := "ButlerRemembers", name := "item", desc := "(IIJ)I" } : Jvm.MethodName) ({ cls := "ButlerRemembers", name := "item", desc := "(IIJ)I" } : Jvm.MethodName)) ∈ tblG := tblG_at 988 (by decide +kernel) (by decide +kernel)
theorem w989 : (Cond.code ({ cls := "ButlerRemembers", name := "item", desc := "(IIJ)I" } : Jvm.MethodName) prog_1_method_35_code (6 : Nat) (Option.some Jvm.ClassFile.FieldType.int)) ∈ tblG := tblG_at 989 (by decide +kernel) (by decide +kernel)
theorem mL_155 : zKV RL 155 11 yX11_item cX11_item 6 (some .int) 3 := ⟨⟨_, _, rfl⟩, w986, w987, w988, w68, w989, by decide, by decide, by decide, by decide +kernel⟩
theorem w1411 : (Cond.methodLink "ButlerRemembersLaw" (159 : Nat) ({ cls := "ButlerRemembersModel", name := "item", desc := "(IIJ)I" } : Jvm.MethodName)) ∈ tblG := tblG_at 1411 (by decide +kernel) (by decide +kernel)
theorem w1412 : (Cond.instanceMethod ({ cls := "ButlerRemembersModel", name := "item", desc := "(IIJ)I" } : Jvm.MethodName)) ∈ tblG := tblG_at 1412 (by decide +kernel) (by decide +kernel)
theorem w1413 : (Cond.selects "ButlerRemembersModel" ({ cls := "ButlerRemembersModel", name := "item", desc := "(IIJ)I" } : Jvm.MethodName) ({ cls := "ButlerRemembersModel", name := "item", desc := "(IIJ)I" } : Jvm.MethodName)) ∈ tblG := tblG_at 1413 (by decide +kernel) (by decide +kernel)
theorem w1414 : (Cond.code ({ cls := "ButlerRemembersModel", name := "item", desc := "(IIJ)I" } : Jvm.MethodName) prog_14_method_81_code (6 : Nat) (Option.some Jvm.ClassFile.FieldType.int)) ∈ tblG := tblG_at 1414 (by decide +kernel) (by decide +kernel)
theorem mL_159 : zKV RL 159 12 yX12_item cX12_item 6 (some .int) 3 := ⟨⟨_, _, rfl⟩, w1411, w1412, w1413, w80, w1414, by decide, by decide, by decide, by decide +kernel⟩
theorem w994 : (Cond.methodLink "ButlerRemembersLaw" (160 : Nat) ({ cls := "ButlerRemembers", name := "read", desc := "(II)J" } : Jvm.MethodName)) ∈ tblG := tblG_at 994 (by decide +kernel) (by decide +kernel)
theorem w995 : (Cond.instanceMethod ({ cls := "ButlerRemembers", name := "read", desc := "(II)J" } : Jvm.MethodName)) ∈ tblG := tblG_at 995 (by decide +kernel) (by decide +kernel)
theorem w996 : (Cond.selects "ButlerRemembers" ({ cls := "ButlerRemembers", name := "read", desc := "(II)J" } : Jvm.MethodName) ({ cls := "ButlerRemembers", name := "read", desc := "(II)J" } : Jvm.MethodName)) ∈ tblG := tblG_at 996 (by decide +kernel) (by decide +kernel)
theorem w997 : (Cond.code ({ cls := "ButlerRemembers", name := "read", desc := "(II)J" } : Jvm.MethodName) prog_1_method_36_code (3 : Nat) (Option.some Jvm.ClassFile.FieldType.long)) ∈ tblG := tblG_at 997 (by decide +kernel) (by decide +kernel)
theorem mL_160 : zKV RL 160 11 yX11_read cX11_read 3 (some .long) 2 := ⟨⟨_, _, rfl⟩, w994, w995, w996, w68, w997, by decide, by decide, by decide, by decide +kernel⟩
theorem w1415 : (Cond.methodLink "ButlerRemembersLaw" (163 : Nat) ({ cls := "ButlerRemembersModel", name := "read", desc := "(II)J" } : Jvm.MethodName)) ∈ tblG := tblG_at 1415 (by decide +kernel) (by decide +kernel)
theorem w1416 : (Cond.instanceMethod ({ cls := "ButlerRemembersModel", name := "read", desc := "(II)J" } : Jvm.MethodName)) ∈ tblG := tblG_at 1416 (by decide +kernel) (by decide +kernel)
theorem w1417 : (Cond.selects "ButlerRemembersModel" ({ cls := "ButlerRemembersModel", name := "read", desc := "(II)J" } : Jvm.MethodName) ({ cls := "ButlerRemembersModel", name := "read", desc := "(II)J" } : Jvm.MethodName)) ∈ tblG := tblG_at 1417 (by decide +kernel) (by decide +kernel)
theorem w1418 : (Cond.code ({ cls := "ButlerRemembersModel", name := "read", desc := "(II)J" } : Jvm.MethodName) prog_14_method_82_code (3 : Nat) (Option.some Jvm.ClassFile.FieldType.long)) ∈ tblG := tblG_at 1418 (by decide +kernel) (by decide +kernel)
theorem mL_163 : zKV RL 163 12 yX12_read cX12_read 3 (some .long) 2 := ⟨⟨_, _, rfl⟩, w1415, w1416, w1417, w80, w1418, by decide, by decide, by decide, by decide +kernel⟩
theorem w998 : (Cond.methodLink "ButlerRemembersLaw" (164 : Nat) ({ cls := "ButlerRemembers", name := "shift", desc := "(IIIII)I" } : Jvm.MethodName)) ∈ tblG := tblG_at 998 (by decide +kernel) (by decide +kernel)
theorem w999 : (Cond.instanceMethod ({ cls := "ButlerRemembers", name := "shift", desc := "(IIIII)I" } : Jvm.MethodName)) ∈ tblG := tblG_at 999 (by decide +kernel) (by decide +kernel)
theorem w1000 : (Cond.selects "ButlerRemembers" ({ cls := "ButlerRemembers", name := "shift", desc := "(IIIII)I" } : Jvm.MethodName) ({ cls := "ButlerRemembers", name := "shift", desc := "(IIIII)I" } : Jvm.MethodName)) ∈ tblG := tblG_at 1000 (by decide +kernel) (by decide +kernel)
theorem w1001 : (Cond.code ({ cls := "ButlerRemembers", name := "shift", desc := "(IIIII)I" } : Jvm.MethodName) prog_1_method_37_code (8 : Nat) (Option.some Jvm.ClassFile.FieldType.int)) ∈ tblG := tblG_at 1001 (by decide +kernel) (by decide +kernel)
theorem mL_164 : zKV RL 164 11 yX11_shift cX11_shift 8 (some .int) 5 := ⟨⟨_, _, rfl⟩, w998, w999, w1000, w68, w1001, by decide, by decide, by decide, by decide +kernel⟩
theorem w1419 : (Cond.methodLink "ButlerRemembersLaw" (168 : Nat) ({ cls := "ButlerRemembersModel", name := "shift", desc := "(IIIII)I" } : Jvm.MethodName)) ∈ tblG := tblG_at 1419 (by decide +kernel) (by decide +kernel)
theorem w1420 : (Cond.instanceMethod ({ cls := "ButlerRemembersModel", name := "shift", desc := "(IIIII)I" } : Jvm.MethodName)) ∈ tblG := tblG_at 1420 (by decide +kernel) (by decide +kernel)
theorem w1421 : (Cond.selects "ButlerRemembersModel" ({ cls := "ButlerRemembersModel", name := "shift", desc := "(IIIII)I" } : Jvm.MethodName) ({ cls := "ButlerRemembersModel", name := "shift", desc := "(IIIII)I" } : Jvm.MethodName)) ∈ tblG := tblG_at 1421 (by decide +kernel) (by decide +kernel)
theorem w1422 : (Cond.code ({ cls := "ButlerRemembersModel", name := "shift", desc := "(IIIII)I" } : Jvm.MethodName) prog_14_method_83_code (7 : Nat) (Option.some Jvm.ClassFile.FieldType.int)) ∈ tblG := tblG_at 1422 (by decide +kernel) (by decide +kernel)
theorem mL_168 : zKV RL 168 12 yX12_shift cX12_shift 7 (some .int) 5 := ⟨⟨_, _, rfl⟩, w1419, w1420, w1421, w80, w1422, by decide, by decide, by decide, by decide +kernel⟩
theorem w429 : (Cond.methodLink "ButlerRemembers$Bishop" (9 : Nat) ({ cls := "ButlerRemembers$Heir", name := "firmness", desc := "(IIIII)I" } : Jvm.MethodName)) ∈ tblG := tblG_at 429 (by decide +kernel) (by decide +kernel)
theorem w1428 : (Cond.sameMethod "ButlerRemembers$Heir" "ButlerRemembers$Heir" "firmness" "(IIIII)I") ∈ tblG := tblG_at 1428 (by decide +kernel) (by decide +kernel)
theorem w219 : (Cond.superclass "ButlerRemembers$Bishop" "ButlerRemembers$Heir") ∈ tblG := tblG_at 219 (by decide +kernel) (by decide +kernel)
theorem w430 : (Cond.instanceMethod ({ cls := "ButlerRemembers$Heir", name := "firmness", desc := "(IIIII)I" } : Jvm.MethodName)) ∈ tblG := tblG_at 430 (by decide +kernel) (by decide +kernel)
theorem w71 : (Cond.initialized "ButlerRemembers$Heir") ∈ tblG := tblG_at 71 (by decide +kernel) (by decide +kernel)
theorem w431 : (Cond.code ({ cls := "ButlerRemembers$Heir", name := "firmness", desc := "(IIIII)I" } : Jvm.MethodName) prog_6_method_2_code (6 : Nat) (Option.some Jvm.ClassFile.FieldType.int)) ∈ tblG := tblG_at 431 (by decide +kernel) (by decide +kernel)
theorem mX0_9 : zKP RX0 9 ⟨"ButlerRemembers$Heir", "firmness", "(IIIII)I"⟩ yX4_firmness cX4_firmness 6 (some .int) 5 := ⟨w429, w1428, w219, Or.inl rfl, rfl, w430, w71, w431, by decide, by decide, by decide +kernel⟩
theorem w883 : (Cond.methodLink "ButlerRemembers$Bishop" (13 : Nat) ({ cls := "ButlerRemembers$Turn", name := "begin", desc := "(I)V" } : Jvm.MethodName)) ∈ tblG := tblG_at 883 (by decide +kernel) (by decide +kernel)
theorem w884 : (Cond.instanceMethod ({ cls := "ButlerRemembers$Turn", name := "begin", desc := "(I)V" } : Jvm.MethodName)) ∈ tblG := tblG_at 884 (by decide +kernel) (by decide +kernel)
theorem w885 : (Cond.selects "ButlerRemembers$Turn" ({ cls := "ButlerRemembers$Turn", name := "begin", desc := "(I)V" } : Jvm.MethodName) ({ cls := "ButlerRemembers$Turn", name := "begin", desc := "(I)V" } : Jvm.MethodName)) ∈ tblG := tblG_at 885 (by decide +kernel) (by decide +kernel)
theorem w78 : (Cond.initialized "ButlerRemembers$Turn") ∈ tblG := tblG_at 78 (by decide +kernel) (by decide +kernel)
theorem w886 : (Cond.code ({ cls := "ButlerRemembers$Turn", name := "begin", desc := "(I)V" } : Jvm.MethodName) prog_12_method_3_code (2 : Nat) (Option.none : Option Jvm.ClassFile.FieldType)) ∈ tblG := tblG_at 886 (by decide +kernel) (by decide +kernel)
theorem mX0_13 : zKV RX0 13 10 yX10_begin cX10_begin 2 none 1 := ⟨⟨_, _, rfl⟩, w883, w884, w885, w78, w886, by decide, by decide, by decide, by decide +kernel⟩
theorem w198 : (Cond.superclass "ButlerRemembers$Heir" "ButlerRemembers$Master") ∈ tblG := tblG_at 198 (by decide +kernel) (by decide +kernel)
theorem w887 : (Cond.methodLink "ButlerRemembers$Bishop" (19 : Nat) ({ cls := "ButlerRemembers$Heir", name := "dines", desc := "(LButlerRemembers$Turn;I)I" } : Jvm.MethodName)) ∈ tblG := tblG_at 887 (by decide +kernel) (by decide +kernel)
theorem w888 : (Cond.sameMethod "ButlerRemembers$Heir" "ButlerRemembers$Master" "dines" "(LButlerRemembers$Turn;I)I") ∈ tblG := tblG_at 888 (by decide +kernel) (by decide +kernel)
theorem w877 : (Cond.instanceMethod ({ cls := "ButlerRemembers$Master", name := "dines", desc := "(LButlerRemembers$Turn;I)I" } : Jvm.MethodName)) ∈ tblG := tblG_at 877 (by decide +kernel) (by decide +kernel)
theorem w70 : (Cond.initialized "ButlerRemembers$Master") ∈ tblG := tblG_at 70 (by decide +kernel) (by decide +kernel)
theorem w904 : (Cond.code ({ cls := "ButlerRemembers$Master", name := "dines", desc := "(LButlerRemembers$Turn;I)I" } : Jvm.MethodName) prog_9_method_3_code (3 : Nat) (Option.some Jvm.ClassFile.FieldType.int)) ∈ tblG := tblG_at 904 (by decide +kernel) (by decide +kernel)
theorem mX0_19 : zKP RX0 19 ⟨"ButlerRemembers$Heir", "dines", "(LButlerRemembers$Turn;I)I"⟩ yX7_dines cX7_dines 3 (some .int) 2 := ⟨w887, w888, w219, Or.inr (w198), rfl, w877, w70, w904, by decide, by decide, by decide +kernel⟩
theorem w913 : (Cond.methodLink "ButlerRemembers$Bishop" (23 : Nat) ({ cls := "ButlerRemembers$Heir", name := "nods", desc := "(LButlerRemembers$Turn;I)I" } : Jvm.MethodName)) ∈ tblG := tblG_at 913 (by decide +kernel) (by decide +kernel)
theorem w1431 : (Cond.sameMethod "ButlerRemembers$Heir" "ButlerRemembers$Heir" "nods" "(LButlerRemembers$Turn;I)I") ∈ tblG := tblG_at 1431 (by decide +kernel) (by decide +kernel)
theorem w914 : (Cond.instanceMethod ({ cls := "ButlerRemembers$Heir", name := "nods", desc := "(LButlerRemembers$Turn;I)I" } : Jvm.MethodName)) ∈ tblG := tblG_at 914 (by decide +kernel) (by decide +kernel)
theorem w915 : (Cond.code ({ cls := "ButlerRemembers$Heir", name := "nods", desc := "(LButlerRemembers$Turn;I)I" } : Jvm.MethodName) prog_6_method_3_code (3 : Nat) (Option.some Jvm.ClassFile.FieldType.int)) ∈ tblG := tblG_at 915 (by decide +kernel) (by decide +kernel)
theorem mX0_23 : zKP RX0 23 ⟨"ButlerRemembers$Heir", "nods", "(LButlerRemembers$Turn;I)I"⟩ yX4_nods cX4_nods 3 (some .int) 2 := ⟨w913, w1431, w219, Or.inl rfl, rfl, w914, w71, w915, by decide, by decide, by decide +kernel⟩
theorem w436 : (Cond.methodLink "ButlerRemembers$Cousin" (7 : Nat) ({ cls := "ButlerRemembers$Master", name := "firmness", desc := "(IIIII)I" } : Jvm.MethodName)) ∈ tblG := tblG_at 436 (by decide +kernel) (by decide +kernel)
theorem w425 : (Cond.sameMethod "ButlerRemembers$Master" "ButlerRemembers$Master" "firmness" "(IIIII)I") ∈ tblG := tblG_at 425 (by decide +kernel) (by decide +kernel)
theorem w212 : (Cond.superclass "ButlerRemembers$Cousin" "ButlerRemembers$Master") ∈ tblG := tblG_at 212 (by decide +kernel) (by decide +kernel)
theorem w423 : (Cond.instanceMethod ({ cls := "ButlerRemembers$Master", name := "firmness", desc := "(IIIII)I" } : Jvm.MethodName)) ∈ tblG := tblG_at 423 (by decide +kernel) (by decide +kernel)
theorem w450 : (Cond.code ({ cls := "ButlerRemembers$Master", name := "firmness", desc := "(IIIII)I" } : Jvm.MethodName) prog_9_method_2_code (6 : Nat) (Option.some Jvm.ClassFile.FieldType.int)) ∈ tblG := tblG_at 450 (by decide +kernel) (by decide +kernel)
theorem mX1_7 : zKP RX1 7 ⟨"ButlerRemembers$Master", "firmness", "(IIIII)I"⟩ yX7_firmness cX7_firmness 6 (some .int) 5 := ⟨w436, w425, w212, Or.inl rfl, rfl, w423, w70, w450, by decide, by decide, by decide +kernel⟩
theorem w938 : (Cond.methodLink "ButlerRemembers$Cousin" (11 : Nat) ({ cls := "ButlerRemembers$Turn", name := "begin", desc := "(I)V" } : Jvm.MethodName)) ∈ tblG := tblG_at 938 (by decide +kernel) (by decide +kernel)
theorem mX1_11 : zKV RX1 11 10 yX10_begin cX10_begin 2 none 1 := ⟨⟨_, _, rfl⟩, w938, w884, w885, w78, w886, by decide, by decide, by decide, by decide +kernel⟩
theorem w939 : (Cond.methodLink "ButlerRemembers$Cousin" (17 : Nat) ({ cls := "ButlerRemembers$Master", name := "tells", desc := "(LButlerRemembers$Turn;I)I" } : Jvm.MethodName)) ∈ tblG := tblG_at 939 (by decide +kernel) (by decide +kernel)
theorem w933 : (Cond.sameMethod "ButlerRemembers$Master" "ButlerRemembers$Master" "tells" "(LButlerRemembers$Turn;I)I") ∈ tblG := tblG_at 933 (by decide +kernel) (by decide +kernel)
theorem w931 : (Cond.instanceMethod ({ cls := "ButlerRemembers$Master", name := "tells", desc := "(LButlerRemembers$Turn;I)I" } : Jvm.MethodName)) ∈ tblG := tblG_at 931 (by decide +kernel) (by decide +kernel)
theorem w953 : (Cond.code ({ cls := "ButlerRemembers$Master", name := "tells", desc := "(LButlerRemembers$Turn;I)I" } : Jvm.MethodName) prog_9_method_5_code (3 : Nat) (Option.some Jvm.ClassFile.FieldType.int)) ∈ tblG := tblG_at 953 (by decide +kernel) (by decide +kernel)
theorem mX1_17 : zKP RX1 17 ⟨"ButlerRemembers$Master", "tells", "(LButlerRemembers$Turn;I)I"⟩ yX7_tells cX7_tells 3 (some .int) 2 := ⟨w939, w933, w212, Or.inl rfl, rfl, w931, w70, w953, by decide, by decide, by decide +kernel⟩
theorem w940 : (Cond.methodLink "ButlerRemembers$Cousin" (21 : Nat) ({ cls := "ButlerRemembers$Cousin", name := "nods", desc := "(LButlerRemembers$Turn;I)I" } : Jvm.MethodName)) ∈ tblG := tblG_at 940 (by decide +kernel) (by decide +kernel)
theorem w926 : (Cond.sameMethod "ButlerRemembers$Cousin" "ButlerRemembers$Master" "nods" "(LButlerRemembers$Turn;I)I") ∈ tblG := tblG_at 926 (by decide +kernel) (by decide +kernel)
theorem w907 : (Cond.instanceMethod ({ cls := "ButlerRemembers$Master", name := "nods", desc := "(LButlerRemembers$Turn;I)I" } : Jvm.MethodName)) ∈ tblG := tblG_at 907 (by decide +kernel) (by decide +kernel)
theorem w928 : (Cond.code ({ cls := "ButlerRemembers$Master", name := "nods", desc := "(LButlerRemembers$Turn;I)I" } : Jvm.MethodName) prog_9_method_4_code (3 : Nat) (Option.some Jvm.ClassFile.FieldType.int)) ∈ tblG := tblG_at 928 (by decide +kernel) (by decide +kernel)
theorem w941 : (Cond.selects "ButlerRemembers$Cousin" ({ cls := "ButlerRemembers$Cousin", name := "nods", desc := "(LButlerRemembers$Turn;I)I" } : Jvm.MethodName) ({ cls := "ButlerRemembers$Master", name := "nods", desc := "(LButlerRemembers$Turn;I)I" } : Jvm.MethodName)) ∈ tblG := tblG_at 941 (by decide +kernel) (by decide +kernel)
theorem mX1_21_1 : zKU RX1 21 1 RX1 "ButlerRemembers$Master" ⟨"ButlerRemembers$Cousin", "nods", "(LButlerRemembers$Turn;I)I"⟩ yX7_nods cX7_nods 3 (some .int) 2 := ⟨⟨_, _, rfl⟩, w940, w926, w907, ⟨cX7_nods, 3, (some .int), w928⟩, w941, w907, w70, w928, by decide, by decide, by decide, by decide +kernel⟩
theorem w942 : (Cond.selects "ButlerRemembers$Told" ({ cls := "ButlerRemembers$Cousin", name := "nods", desc := "(LButlerRemembers$Turn;I)I" } : Jvm.MethodName) ({ cls := "ButlerRemembers$Told", name := "nods", desc := "(LButlerRemembers$Turn;I)I" } : Jvm.MethodName)) ∈ tblG := tblG_at 942 (by decide +kernel) (by decide +kernel)
theorem w923 : (Cond.instanceMethod ({ cls := "ButlerRemembers$Told", name := "nods", desc := "(LButlerRemembers$Turn;I)I" } : Jvm.MethodName)) ∈ tblG := tblG_at 923 (by decide +kernel) (by decide +kernel)
theorem w76 : (Cond.initialized "ButlerRemembers$Told") ∈ tblG := tblG_at 76 (by decide +kernel) (by decide +kernel)
theorem w924 : (Cond.code ({ cls := "ButlerRemembers$Told", name := "nods", desc := "(LButlerRemembers$Turn;I)I" } : Jvm.MethodName) prog_11_method_3_code (3 : Nat) (Option.some Jvm.ClassFile.FieldType.int)) ∈ tblG := tblG_at 924 (by decide +kernel) (by decide +kernel)
theorem mX1_21_9 : zKU RX1 21 9 RX9 "ButlerRemembers$Master" ⟨"ButlerRemembers$Cousin", "nods", "(LButlerRemembers$Turn;I)I"⟩ yX9_nods cX9_nods 3 (some .int) 2 := ⟨⟨_, _, rfl⟩, w940, w926, w907, ⟨cX7_nods, 3, (some .int), w928⟩, w942, w923, w76, w924, by decide, by decide, by decide, by decide +kernel⟩
theorem w963 : (Cond.methodLink "ButlerRemembers$Turn" (23 : Nat) ({ cls := "java/lang/Math", name := "min", desc := "(II)I" } : Jvm.MethodName)) ∈ tblG := tblG_at 963 (by decide +kernel) (by decide +kernel)
theorem mX10_23 : zKS RX10 23 yJ9_min_7cf53 cJ9_min_7cf53 2 (some .int) 2 := ⟨w963, w531, w82, w532, by decide, by decide, by decide, by decide +kernel⟩
theorem w362 : (Cond.methodLink "ButlerRemembers" (93 : Nat) ({ cls := "ButlerRemembers$Household", name := "addMaster", desc := "(II)I" } : Jvm.MethodName)) ∈ tblG := tblG_at 362 (by decide +kernel) (by decide +kernel)
theorem w363 : (Cond.instanceMethod ({ cls := "ButlerRemembers$Household", name := "addMaster", desc := "(II)I" } : Jvm.MethodName)) ∈ tblG := tblG_at 363 (by decide +kernel) (by decide +kernel)
theorem w364 : (Cond.selects "ButlerRemembers$Household" ({ cls := "ButlerRemembers$Household", name := "addMaster", desc := "(II)I" } : Jvm.MethodName) ({ cls := "ButlerRemembers$Household", name := "addMaster", desc := "(II)I" } : Jvm.MethodName)) ∈ tblG := tblG_at 364 (by decide +kernel) (by decide +kernel)
theorem w69 : (Cond.initialized "ButlerRemembers$Household") ∈ tblG := tblG_at 69 (by decide +kernel) (by decide +kernel)
theorem w365 : (Cond.code ({ cls := "ButlerRemembers$Household", name := "addMaster", desc := "(II)I" } : Jvm.MethodName) prog_8_method_5_code (4 : Nat) (Option.some Jvm.ClassFile.FieldType.int)) ∈ tblG := tblG_at 365 (by decide +kernel) (by decide +kernel)
theorem mX11_93 : zKV RX11 93 6 yX6_addMaster cX6_addMaster 4 (some .int) 2 := ⟨⟨_, _, rfl⟩, w362, w363, w364, w69, w365, by decide, by decide, by decide, by decide +kernel⟩
theorem w370 : (Cond.methodLink "ButlerRemembers" (97 : Nat) ({ cls := "ButlerRemembers$Household", name := "hasMaster", desc := "(I)Z" } : Jvm.MethodName)) ∈ tblG := tblG_at 370 (by decide +kernel) (by decide +kernel)
theorem w371 : (Cond.instanceMethod ({ cls := "ButlerRemembers$Household", name := "hasMaster", desc := "(I)Z" } : Jvm.MethodName)) ∈ tblG := tblG_at 371 (by decide +kernel) (by decide +kernel)
theorem w372 : (Cond.selects "ButlerRemembers$Household" ({ cls := "ButlerRemembers$Household", name := "hasMaster", desc := "(I)Z" } : Jvm.MethodName) ({ cls := "ButlerRemembers$Household", name := "hasMaster", desc := "(I)Z" } : Jvm.MethodName)) ∈ tblG := tblG_at 372 (by decide +kernel) (by decide +kernel)
theorem w373 : (Cond.code ({ cls := "ButlerRemembers$Household", name := "hasMaster", desc := "(I)Z" } : Jvm.MethodName) prog_8_method_2_code (2 : Nat) (Option.some Jvm.ClassFile.FieldType.boolean)) ∈ tblG := tblG_at 373 (by decide +kernel) (by decide +kernel)
theorem mX11_97 : zKV RX11 97 6 yX6_hasMaster cX6_hasMaster 2 (some .boolean) 1 := ⟨⟨_, _, rfl⟩, w370, w371, w372, w69, w373, by decide, by decide, by decide, by decide +kernel⟩
theorem w374 : (Cond.methodLink "ButlerRemembers" (101 : Nat) ({ cls := "ButlerRemembers", name := "nightsKept", desc := "(II)I" } : Jvm.MethodName)) ∈ tblG := tblG_at 374 (by decide +kernel) (by decide +kernel)
theorem w376 : (Cond.instanceMethod ({ cls := "ButlerRemembers", name := "nightsKept", desc := "(II)I" } : Jvm.MethodName)) ∈ tblG := tblG_at 376 (by decide +kernel) (by decide +kernel)
theorem w0 : Cond.selects "ButlerRemembers" ⟨"ButlerRemembers", "nightsKept", "(II)I"⟩ ⟨"ButlerRemembers", "nightsKept", "(II)I"⟩ ∈ tblG := tblG_at 0 (by decide +kernel) (by decide +kernel)
theorem w377 : (Cond.code ({ cls := "ButlerRemembers", name := "nightsKept", desc := "(II)I" } : Jvm.MethodName) prog_1_method_50_code (4 : Nat) (Option.some Jvm.ClassFile.FieldType.int)) ∈ tblG := tblG_at 377 (by decide +kernel) (by decide +kernel)
theorem mX11_101 : zKV RX11 101 11 yX11_nightsKept cX11_nightsKept 4 (some .int) 2 := ⟨⟨_, _, rfl⟩, w374, w376, w0, w68, w377, by decide, by decide, by decide, by decide +kernel⟩
theorem w451 : (Cond.methodLink "ButlerRemembers" (113 : Nat) ({ cls := "ButlerRemembers", name := "nightsUntilBlank", desc := "(I)I" } : Jvm.MethodName)) ∈ tblG := tblG_at 451 (by decide +kernel) (by decide +kernel)
theorem w453 : (Cond.instanceMethod ({ cls := "ButlerRemembers", name := "nightsUntilBlank", desc := "(I)I" } : Jvm.MethodName)) ∈ tblG := tblG_at 453 (by decide +kernel) (by decide +kernel)
theorem w8 : Cond.selects "ButlerRemembers" ⟨"ButlerRemembers", "nightsUntilBlank", "(I)I"⟩ ⟨"ButlerRemembers", "nightsUntilBlank", "(I)I"⟩ ∈ tblG := tblG_at 8 (by decide +kernel) (by decide +kernel)
theorem w454 : (Cond.code ({ cls := "ButlerRemembers", name := "nightsUntilBlank", desc := "(I)I" } : Jvm.MethodName) prog_1_method_51_code (4 : Nat) (Option.some Jvm.ClassFile.FieldType.int)) ∈ tblG := tblG_at 454 (by decide +kernel) (by decide +kernel)
theorem mX11_113 : zKV RX11 113 11 yX11_nightsUntilBlank cX11_nightsUntilBlank 4 (some .int) 1 := ⟨⟨_, _, rfl⟩, w451, w453, w8, w68, w454, by decide, by decide, by decide, by decide +kernel⟩
theorem w459 : (Cond.methodLink "ButlerRemembers" (117 : Nat) ({ cls := "ButlerRemembers", name := "isFact", desc := "(I)Z" } : Jvm.MethodName)) ∈ tblG := tblG_at 459 (by decide +kernel) (by decide +kernel)
theorem w460 : (Cond.static ({ cls := "ButlerRemembers", name := "isFact", desc := "(I)Z" } : Jvm.MethodName)) ∈ tblG := tblG_at 460 (by decide +kernel) (by decide +kernel)
theorem w461 : (Cond.code ({ cls := "ButlerRemembers", name := "isFact", desc := "(I)Z" } : Jvm.MethodName) prog_1_method_38_code (1 : Nat) (Option.some Jvm.ClassFile.FieldType.boolean)) ∈ tblG := tblG_at 461 (by decide +kernel) (by decide +kernel)
theorem mX11_117 : zKS RX11 117 yX11_isFact cX11_isFact 1 (some .boolean) 1 := ⟨w459, w460, w68, w461, by decide, by decide, by decide, by decide +kernel⟩
theorem w382 : (Cond.methodLink "ButlerRemembers" (123 : Nat) ({ cls := "ButlerRemembers", name := "holding", desc := "()LButlerRemembers$House;" } : Jvm.MethodName)) ∈ tblG := tblG_at 382 (by decide +kernel) (by decide +kernel)
theorem w384 : (Cond.instanceMethod ({ cls := "ButlerRemembers", name := "holding", desc := "()LButlerRemembers$House;" } : Jvm.MethodName)) ∈ tblG := tblG_at 384 (by decide +kernel) (by decide +kernel)
theorem w2 : Cond.selects "ButlerRemembers" ⟨"ButlerRemembers", "holding", "()LButlerRemembers$House;"⟩ ⟨"ButlerRemembers", "holding", "()LButlerRemembers$House;"⟩ ∈ tblG := tblG_at 2 (by decide +kernel) (by decide +kernel)
theorem w385 : (Cond.code ({ cls := "ButlerRemembers", name := "holding", desc := "()LButlerRemembers$House;" } : Jvm.MethodName) prog_1_method_44_code (2 : Nat) (Option.some (Jvm.ClassFile.FieldType.object "ButlerRemembers$House"))) ∈ tblG := tblG_at 385 (by decide +kernel) (by decide +kernel)
theorem mX11_123 : zKV RX11 123 11 yX11_holding cX11_holding 2 (some (.object "ButlerRemembers$House")) 0 := ⟨⟨_, _, rfl⟩, w382, w384, w2, w68, w385, by decide, by decide, by decide, by decide +kernel⟩
theorem w386 : (Cond.methodLink "ButlerRemembers" (127 : Nat) ({ cls := "ButlerRemembers$House", name := "weigh", desc := "(IIII[I)V" } : Jvm.MethodName)) ∈ tblG := tblG_at 386 (by decide +kernel) (by decide +kernel)
theorem w387 : (Cond.instanceMethod ({ cls := "ButlerRemembers$House", name := "weigh", desc := "(IIII[I)V" } : Jvm.MethodName)) ∈ tblG := tblG_at 387 (by decide +kernel) (by decide +kernel)
theorem w388 : (Cond.selects "ButlerRemembers$House" ({ cls := "ButlerRemembers$House", name := "weigh", desc := "(IIII[I)V" } : Jvm.MethodName) ({ cls := "ButlerRemembers$House", name := "weigh", desc := "(IIII[I)V" } : Jvm.MethodName)) ∈ tblG := tblG_at 388 (by decide +kernel) (by decide +kernel)
theorem w77 : (Cond.initialized "ButlerRemembers$House") ∈ tblG := tblG_at 77 (by decide +kernel) (by decide +kernel)
theorem w389 : (Cond.code ({ cls := "ButlerRemembers$House", name := "weigh", desc := "(IIII[I)V" } : Jvm.MethodName) prog_7_method_15_code (10 : Nat) (Option.none : Option Jvm.ClassFile.FieldType)) ∈ tblG := tblG_at 389 (by decide +kernel) (by decide +kernel)
theorem mX11_127 : zKV RX11 127 5 yX5_weigh cX5_weigh 10 none 5 := ⟨⟨_, _, rfl⟩, w386, w387, w388, w77, w389, by decide, by decide, by decide, by decide +kernel⟩
theorem w414 : (Cond.methodLink "ButlerRemembers" (131 : Nat) ({ cls := "ButlerRemembers", name := "weighedGrip", desc := "(IIII)I" } : Jvm.MethodName)) ∈ tblG := tblG_at 414 (by decide +kernel) (by decide +kernel)
theorem w416 : (Cond.instanceMethod ({ cls := "ButlerRemembers", name := "weighedGrip", desc := "(IIII)I" } : Jvm.MethodName)) ∈ tblG := tblG_at 416 (by decide +kernel) (by decide +kernel)
theorem w6 : Cond.selects "ButlerRemembers" ⟨"ButlerRemembers", "weighedGrip", "(IIII)I"⟩ ⟨"ButlerRemembers", "weighedGrip", "(IIII)I"⟩ ∈ tblG := tblG_at 6 (by decide +kernel) (by decide +kernel)
theorem w417 : (Cond.code ({ cls := "ButlerRemembers", name := "weighedGrip", desc := "(IIII)I" } : Jvm.MethodName) prog_1_method_46_code (6 : Nat) (Option.some Jvm.ClassFile.FieldType.int)) ∈ tblG := tblG_at 417 (by decide +kernel) (by decide +kernel)
theorem mX11_131 : zKV RX11 131 11 yX11_weighedGrip cX11_weighedGrip 6 (some .int) 4 := ⟨⟨_, _, rfl⟩, w414, w416, w6, w68, w417, by decide, by decide, by decide, by decide +kernel⟩
theorem w470 : (Cond.methodLink "ButlerRemembers" (135 : Nat) ({ cls := "ButlerRemembers", name := "isSet", desc := "(I)Z" } : Jvm.MethodName)) ∈ tblG := tblG_at 470 (by decide +kernel) (by decide +kernel)
theorem w471 : (Cond.static ({ cls := "ButlerRemembers", name := "isSet", desc := "(I)Z" } : Jvm.MethodName)) ∈ tblG := tblG_at 471 (by decide +kernel) (by decide +kernel)
theorem w472 : (Cond.code ({ cls := "ButlerRemembers", name := "isSet", desc := "(I)Z" } : Jvm.MethodName) prog_1_method_39_code (1 : Nat) (Option.some Jvm.ClassFile.FieldType.boolean)) ∈ tblG := tblG_at 472 (by decide +kernel) (by decide +kernel)
theorem mX11_135 : zKS RX11 135 yX11_isSet cX11_isSet 1 (some .boolean) 1 := ⟨w470, w471, w68, w472, by decide, by decide, by decide, by decide +kernel⟩
theorem w477 : (Cond.methodLink "ButlerRemembers" (138 : Nat) ({ cls := "ButlerRemembers$Household", name := "addDeed", desc := "(III)I" } : Jvm.MethodName)) ∈ tblG := tblG_at 477 (by decide +kernel) (by decide +kernel)
theorem w478 : (Cond.instanceMethod ({ cls := "ButlerRemembers$Household", name := "addDeed", desc := "(III)I" } : Jvm.MethodName)) ∈ tblG := tblG_at 478 (by decide +kernel) (by decide +kernel)
theorem w479 : (Cond.selects "ButlerRemembers$Household" ({ cls := "ButlerRemembers$Household", name := "addDeed", desc := "(III)I" } : Jvm.MethodName) ({ cls := "ButlerRemembers$Household", name := "addDeed", desc := "(III)I" } : Jvm.MethodName)) ∈ tblG := tblG_at 479 (by decide +kernel) (by decide +kernel)
theorem w480 : (Cond.code ({ cls := "ButlerRemembers$Household", name := "addDeed", desc := "(III)I" } : Jvm.MethodName) prog_8_method_6_code (4 : Nat) (Option.some Jvm.ClassFile.FieldType.int)) ∈ tblG := tblG_at 480 (by decide +kernel) (by decide +kernel)
theorem mX11_138 : zKV RX11 138 6 yX6_addDeed cX6_addDeed 4 (some .int) 3 := ⟨⟨_, _, rfl⟩, w477, w478, w479, w69, w480, by decide, by decide, by decide, by decide +kernel⟩
theorem w485 : (Cond.methodLink "ButlerRemembers" (142 : Nat) ({ cls := "ButlerRemembers$Household", name := "addFootman", desc := "(I)I" } : Jvm.MethodName)) ∈ tblG := tblG_at 485 (by decide +kernel) (by decide +kernel)
theorem w486 : (Cond.instanceMethod ({ cls := "ButlerRemembers$Household", name := "addFootman", desc := "(I)I" } : Jvm.MethodName)) ∈ tblG := tblG_at 486 (by decide +kernel) (by decide +kernel)
theorem w487 : (Cond.selects "ButlerRemembers$Household" ({ cls := "ButlerRemembers$Household", name := "addFootman", desc := "(I)I" } : Jvm.MethodName) ({ cls := "ButlerRemembers$Household", name := "addFootman", desc := "(I)I" } : Jvm.MethodName)) ∈ tblG := tblG_at 487 (by decide +kernel) (by decide +kernel)
theorem w488 : (Cond.code ({ cls := "ButlerRemembers$Household", name := "addFootman", desc := "(I)I" } : Jvm.MethodName) prog_8_method_7_code (2 : Nat) (Option.some Jvm.ClassFile.FieldType.int)) ∈ tblG := tblG_at 488 (by decide +kernel) (by decide +kernel)
theorem mX11_142 : zKV RX11 142 6 yX6_addFootman cX6_addFootman 2 (some .int) 1 := ⟨⟨_, _, rfl⟩, w485, w486, w487, w69, w488, by decide, by decide, by decide, by decide +kernel⟩
theorem w493 : (Cond.methodLink "ButlerRemembers" (145 : Nat) ({ cls := "ButlerRemembers$Household", name := "hasFootman", desc := "(I)Z" } : Jvm.MethodName)) ∈ tblG := tblG_at 493 (by decide +kernel) (by decide +kernel)
theorem w494 : (Cond.instanceMethod ({ cls := "ButlerRemembers$Household", name := "hasFootman", desc := "(I)Z" } : Jvm.MethodName)) ∈ tblG := tblG_at 494 (by decide +kernel) (by decide +kernel)
theorem w495 : (Cond.selects "ButlerRemembers$Household" ({ cls := "ButlerRemembers$Household", name := "hasFootman", desc := "(I)Z" } : Jvm.MethodName) ({ cls := "ButlerRemembers$Household", name := "hasFootman", desc := "(I)Z" } : Jvm.MethodName)) ∈ tblG := tblG_at 495 (by decide +kernel) (by decide +kernel)
theorem w496 : (Cond.code ({ cls := "ButlerRemembers$Household", name := "hasFootman", desc := "(I)Z" } : Jvm.MethodName) prog_8_method_3_code (2 : Nat) (Option.some Jvm.ClassFile.FieldType.boolean)) ∈ tblG := tblG_at 496 (by decide +kernel) (by decide +kernel)
theorem mX11_145 : zKV RX11 145 6 yX6_hasFootman cX6_hasFootman 2 (some .boolean) 1 := ⟨⟨_, _, rfl⟩, w493, w494, w495, w69, w496, by decide, by decide, by decide, by decide +kernel⟩
theorem w497 : (Cond.methodLink "ButlerRemembers" (148 : Nat) ({ cls := "ButlerRemembers$Household", name := "isOut", desc := "(I)Z" } : Jvm.MethodName)) ∈ tblG := tblG_at 497 (by decide +kernel) (by decide +kernel)
theorem w498 : (Cond.instanceMethod ({ cls := "ButlerRemembers$Household", name := "isOut", desc := "(I)Z" } : Jvm.MethodName)) ∈ tblG := tblG_at 498 (by decide +kernel) (by decide +kernel)
theorem w499 : (Cond.selects "ButlerRemembers$Household" ({ cls := "ButlerRemembers$Household", name := "isOut", desc := "(I)Z" } : Jvm.MethodName) ({ cls := "ButlerRemembers$Household", name := "isOut", desc := "(I)Z" } : Jvm.MethodName)) ∈ tblG := tblG_at 499 (by decide +kernel) (by decide +kernel)
theorem w500 : (Cond.code ({ cls := "ButlerRemembers$Household", name := "isOut", desc := "(I)Z" } : Jvm.MethodName) prog_8_method_4_code (2 : Nat) (Option.some Jvm.ClassFile.FieldType.boolean)) ∈ tblG := tblG_at 500 (by decide +kernel) (by decide +kernel)
theorem mX11_148 : zKV RX11 148 6 yX6_isOut cX6_isOut 2 (some .boolean) 1 := ⟨⟨_, _, rfl⟩, w497, w498, w499, w69, w500, by decide, by decide, by decide, by decide +kernel⟩
theorem w505 : (Cond.methodLink "ButlerRemembers" (154 : Nat) ({ cls := "ButlerRemembers$Household", name := "lostWith", desc := "(I)I" } : Jvm.MethodName)) ∈ tblG := tblG_at 505 (by decide +kernel) (by decide +kernel)
theorem w506 : (Cond.instanceMethod ({ cls := "ButlerRemembers$Household", name := "lostWith", desc := "(I)I" } : Jvm.MethodName)) ∈ tblG := tblG_at 506 (by decide +kernel) (by decide +kernel)
theorem w507 : (Cond.selects "ButlerRemembers$Household" ({ cls := "ButlerRemembers$Household", name := "lostWith", desc := "(I)I" } : Jvm.MethodName) ({ cls := "ButlerRemembers$Household", name := "lostWith", desc := "(I)I" } : Jvm.MethodName)) ∈ tblG := tblG_at 507 (by decide +kernel) (by decide +kernel)
theorem w508 : (Cond.code ({ cls := "ButlerRemembers$Household", name := "lostWith", desc := "(I)I" } : Jvm.MethodName) prog_8_method_17_code (2 : Nat) (Option.some Jvm.ClassFile.FieldType.int)) ∈ tblG := tblG_at 508 (by decide +kernel) (by decide +kernel)
theorem mX11_154 : zKV RX11 154 6 yX6_lostWith cX6_lostWith 2 (some .int) 1 := ⟨⟨_, _, rfl⟩, w505, w506, w507, w69, w508, by decide, by decide, by decide, by decide +kernel⟩
theorem w526 : (Cond.methodLink "ButlerRemembers" (160 : Nat) ({ cls := "ButlerRemembers$House", name := "learn", desc := "([BI)I" } : Jvm.MethodName)) ∈ tblG := tblG_at 526 (by decide +kernel) (by decide +kernel)
theorem w527 : (Cond.instanceMethod ({ cls := "ButlerRemembers$House", name := "learn", desc := "([BI)I" } : Jvm.MethodName)) ∈ tblG := tblG_at 527 (by decide +kernel) (by decide +kernel)
theorem w528 : (Cond.selects "ButlerRemembers$House" ({ cls := "ButlerRemembers$House", name := "learn", desc := "([BI)I" } : Jvm.MethodName) ({ cls := "ButlerRemembers$House", name := "learn", desc := "([BI)I" } : Jvm.MethodName)) ∈ tblG := tblG_at 528 (by decide +kernel) (by decide +kernel)
theorem w529 : (Cond.code ({ cls := "ButlerRemembers$House", name := "learn", desc := "([BI)I" } : Jvm.MethodName) prog_7_method_2_code (5 : Nat) (Option.some Jvm.ClassFile.FieldType.int)) ∈ tblG := tblG_at 529 (by decide +kernel) (by decide +kernel)
theorem mX11_160 : zKV RX11 160 5 yX5_learn cX5_learn 5 (some .int) 2 := ⟨⟨_, _, rfl⟩, w526, w527, w528, w77, w529, by decide, by decide, by decide, by decide +kernel⟩
theorem w691 : (Cond.methodLink "ButlerRemembers" (170 : Nat) ({ cls := "ButlerRemembers$Household", name := "doneWith", desc := "([I)I" } : Jvm.MethodName)) ∈ tblG := tblG_at 691 (by decide +kernel) (by decide +kernel)
theorem w692 : (Cond.instanceMethod ({ cls := "ButlerRemembers$Household", name := "doneWith", desc := "([I)I" } : Jvm.MethodName)) ∈ tblG := tblG_at 692 (by decide +kernel) (by decide +kernel)
theorem w693 : (Cond.selects "ButlerRemembers$Household" ({ cls := "ButlerRemembers$Household", name := "doneWith", desc := "([I)I" } : Jvm.MethodName) ({ cls := "ButlerRemembers$Household", name := "doneWith", desc := "([I)I" } : Jvm.MethodName)) ∈ tblG := tblG_at 693 (by decide +kernel) (by decide +kernel)
theorem w694 : (Cond.code ({ cls := "ButlerRemembers$Household", name := "doneWith", desc := "([I)I" } : Jvm.MethodName) prog_8_method_11_code (5 : Nat) (Option.some Jvm.ClassFile.FieldType.int)) ∈ tblG := tblG_at 694 (by decide +kernel) (by decide +kernel)
theorem mX11_170 : zKV RX11 170 6 yX6_doneWith cX6_doneWith 5 (some .int) 1 := ⟨⟨_, _, rfl⟩, w691, w692, w693, w69, w694, by decide, by decide, by decide, by decide +kernel⟩
theorem w696 : (Cond.methodLink "ButlerRemembers" (174 : Nat) ({ cls := "ButlerRemembers", name := "tellingsNow", desc := "()I" } : Jvm.MethodName)) ∈ tblG := tblG_at 696 (by decide +kernel) (by decide +kernel)
theorem w698 : (Cond.instanceMethod ({ cls := "ButlerRemembers", name := "tellingsNow", desc := "()I" } : Jvm.MethodName)) ∈ tblG := tblG_at 698 (by decide +kernel) (by decide +kernel)
theorem w18 : Cond.selects "ButlerRemembers" ⟨"ButlerRemembers", "tellingsNow", "()I"⟩ ⟨"ButlerRemembers", "tellingsNow", "()I"⟩ ∈ tblG := tblG_at 18 (by decide +kernel) (by decide +kernel)
theorem w699 : (Cond.code ({ cls := "ButlerRemembers", name := "tellingsNow", desc := "()I" } : Jvm.MethodName) prog_1_method_54_code (1 : Nat) (Option.some Jvm.ClassFile.FieldType.int)) ∈ tblG := tblG_at 699 (by decide +kernel) (by decide +kernel)
theorem mX11_174 : zKV RX11 174 11 yX11_tellingsNow cX11_tellingsNow 1 (some .int) 0 := ⟨⟨_, _, rfl⟩, w696, w698, w18, w68, w699, by decide, by decide, by decide, by decide +kernel⟩
theorem w721 : (Cond.methodLink "ButlerRemembers" (178 : Nat) ({ cls := "ButlerRemembers", name := "tellingsByDay", desc := "(Z)I" } : Jvm.MethodName)) ∈ tblG := tblG_at 721 (by decide +kernel) (by decide +kernel)
theorem w723 : (Cond.instanceMethod ({ cls := "ButlerRemembers", name := "tellingsByDay", desc := "(Z)I" } : Jvm.MethodName)) ∈ tblG := tblG_at 723 (by decide +kernel) (by decide +kernel)
theorem w21 : Cond.selects "ButlerRemembers" ⟨"ButlerRemembers", "tellingsByDay", "(Z)I"⟩ ⟨"ButlerRemembers", "tellingsByDay", "(Z)I"⟩ ∈ tblG := tblG_at 21 (by decide +kernel) (by decide +kernel)
theorem w724 : (Cond.code ({ cls := "ButlerRemembers", name := "tellingsByDay", desc := "(Z)I" } : Jvm.MethodName) prog_1_method_56_code (6 : Nat) (Option.some Jvm.ClassFile.FieldType.int)) ∈ tblG := tblG_at 724 (by decide +kernel) (by decide +kernel)
theorem mX11_178 : zKV RX11 178 11 yX11_tellingsByDay cX11_tellingsByDay 6 (some .int) 1 := ⟨⟨_, _, rfl⟩, w721, w723, w21, w68, w724, by decide, by decide, by decide, by decide +kernel⟩
theorem w730 : (Cond.methodLink "ButlerRemembers" (182 : Nat) ({ cls := "ButlerRemembers$Household", name := "heldWithout", desc := "(I)I" } : Jvm.MethodName)) ∈ tblG := tblG_at 730 (by decide +kernel) (by decide +kernel)
theorem w511 : (Cond.instanceMethod ({ cls := "ButlerRemembers$Household", name := "heldWithout", desc := "(I)I" } : Jvm.MethodName)) ∈ tblG := tblG_at 511 (by decide +kernel) (by decide +kernel)
theorem w512 : (Cond.selects "ButlerRemembers$Household" ({ cls := "ButlerRemembers$Household", name := "heldWithout", desc := "(I)I" } : Jvm.MethodName) ({ cls := "ButlerRemembers$Household", name := "heldWithout", desc := "(I)I" } : Jvm.MethodName)) ∈ tblG := tblG_at 512 (by decide +kernel) (by decide +kernel)
theorem w513 : (Cond.code ({ cls := "ButlerRemembers$Household", name := "heldWithout", desc := "(I)I" } : Jvm.MethodName) prog_8_method_14_code (4 : Nat) (Option.some Jvm.ClassFile.FieldType.int)) ∈ tblG := tblG_at 513 (by decide +kernel) (by decide +kernel)
theorem mX11_182 : zKV RX11 182 6 yX6_heldWithout cX6_heldWithout 4 (some .int) 1 := ⟨⟨_, _, rfl⟩, w730, w511, w512, w69, w513, by decide, by decide, by decide, by decide +kernel⟩
theorem w731 : (Cond.methodLink "ButlerRemembers" (185 : Nat) ({ cls := "ButlerRemembers$Household", name := "smallestCrew", desc := "()I" } : Jvm.MethodName)) ∈ tblG := tblG_at 731 (by decide +kernel) (by decide +kernel)
theorem w732 : (Cond.instanceMethod ({ cls := "ButlerRemembers$Household", name := "smallestCrew", desc := "()I" } : Jvm.MethodName)) ∈ tblG := tblG_at 732 (by decide +kernel) (by decide +kernel)
theorem w733 : (Cond.selects "ButlerRemembers$Household" ({ cls := "ButlerRemembers$Household", name := "smallestCrew", desc := "()I" } : Jvm.MethodName) ({ cls := "ButlerRemembers$Household", name := "smallestCrew", desc := "()I" } : Jvm.MethodName)) ∈ tblG := tblG_at 733 (by decide +kernel) (by decide +kernel)
theorem w734 : (Cond.code ({ cls := "ButlerRemembers$Household", name := "smallestCrew", desc := "()I" } : Jvm.MethodName) prog_8_method_16_code (6 : Nat) (Option.some Jvm.ClassFile.FieldType.int)) ∈ tblG := tblG_at 734 (by decide +kernel) (by decide +kernel)
theorem mX11_185 : zKV RX11 185 6 yX6_smallestCrew cX6_smallestCrew 6 (some .int) 0 := ⟨⟨_, _, rfl⟩, w731, w732, w733, w69, w734, by decide, by decide, by decide, by decide +kernel⟩
theorem w740 : (Cond.methodLink "ButlerRemembers" (188 : Nat) ({ cls := "ButlerRemembers$Household", name := "isSafe", desc := "()Z" } : Jvm.MethodName)) ∈ tblG := tblG_at 740 (by decide +kernel) (by decide +kernel)
theorem w741 : (Cond.instanceMethod ({ cls := "ButlerRemembers$Household", name := "isSafe", desc := "()Z" } : Jvm.MethodName)) ∈ tblG := tblG_at 741 (by decide +kernel) (by decide +kernel)
theorem w742 : (Cond.selects "ButlerRemembers$Household" ({ cls := "ButlerRemembers$Household", name := "isSafe", desc := "()Z" } : Jvm.MethodName) ({ cls := "ButlerRemembers$Household", name := "isSafe", desc := "()Z" } : Jvm.MethodName)) ∈ tblG := tblG_at 742 (by decide +kernel) (by decide +kernel)
theorem w743 : (Cond.code ({ cls := "ButlerRemembers$Household", name := "isSafe", desc := "()Z" } : Jvm.MethodName) prog_8_method_18_code (2 : Nat) (Option.some Jvm.ClassFile.FieldType.boolean)) ∈ tblG := tblG_at 743 (by decide +kernel) (by decide +kernel)
theorem mX11_188 : zKV RX11 188 6 yX6_isSafe cX6_isSafe 2 (some .boolean) 0 := ⟨⟨_, _, rfl⟩, w740, w741, w742, w69, w743, by decide, by decide, by decide, by decide +kernel⟩
theorem w726 : (Cond.methodLink "ButlerRemembers" (192 : Nat) ({ cls := "ButlerRemembers", name := "sleep", desc := "([III)V" } : Jvm.MethodName)) ∈ tblG := tblG_at 726 (by decide +kernel) (by decide +kernel)
theorem w728 : (Cond.instanceMethod ({ cls := "ButlerRemembers", name := "sleep", desc := "([III)V" } : Jvm.MethodName)) ∈ tblG := tblG_at 728 (by decide +kernel) (by decide +kernel)
theorem w22 : Cond.selects "ButlerRemembers" ⟨"ButlerRemembers", "sleep", "([III)V"⟩ ⟨"ButlerRemembers", "sleep", "([III)V"⟩ ∈ tblG := tblG_at 22 (by decide +kernel) (by decide +kernel)
theorem w729 : (Cond.code ({ cls := "ButlerRemembers", name := "sleep", desc := "([III)V" } : Jvm.MethodName) prog_1_method_49_code (6 : Nat) (Option.none : Option Jvm.ClassFile.FieldType)) ∈ tblG := tblG_at 729 (by decide +kernel) (by decide +kernel)
theorem mX11_192 : zKV RX11 192 11 yX11_sleep cX11_sleep 6 none 3 := ⟨⟨_, _, rfl⟩, w726, w728, w22, w68, w729, by decide, by decide, by decide, by decide +kernel⟩
theorem w753 : (Cond.methodLink "ButlerRemembers" (196 : Nat) ({ cls := "ButlerRemembers", name := "keptThrough", desc := "(III)I" } : Jvm.MethodName)) ∈ tblG := tblG_at 753 (by decide +kernel) (by decide +kernel)
theorem w755 : (Cond.instanceMethod ({ cls := "ButlerRemembers", name := "keptThrough", desc := "(III)I" } : Jvm.MethodName)) ∈ tblG := tblG_at 755 (by decide +kernel) (by decide +kernel)
theorem w23 : Cond.selects "ButlerRemembers" ⟨"ButlerRemembers", "keptThrough", "(III)I"⟩ ⟨"ButlerRemembers", "keptThrough", "(III)I"⟩ ∈ tblG := tblG_at 23 (by decide +kernel) (by decide +kernel)
theorem w756 : (Cond.code ({ cls := "ButlerRemembers", name := "keptThrough", desc := "(III)I" } : Jvm.MethodName) prog_1_method_48_code (6 : Nat) (Option.some Jvm.ClassFile.FieldType.int)) ∈ tblG := tblG_at 756 (by decide +kernel) (by decide +kernel)
theorem mX11_196 : zKV RX11 196 11 yX11_keptThrough cX11_keptThrough 6 (some .int) 3 := ⟨⟨_, _, rfl⟩, w753, w755, w23, w68, w756, by decide, by decide, by decide, by decide +kernel⟩
theorem w700 : (Cond.methodLink "ButlerRemembers" (199 : Nat) ({ cls := "ButlerRemembers", name := "dreamOfNow", desc := "()V" } : Jvm.MethodName)) ∈ tblG := tblG_at 700 (by decide +kernel) (by decide +kernel)
theorem w702 : (Cond.instanceMethod ({ cls := "ButlerRemembers", name := "dreamOfNow", desc := "()V" } : Jvm.MethodName)) ∈ tblG := tblG_at 702 (by decide +kernel) (by decide +kernel)
theorem w19 : Cond.selects "ButlerRemembers" ⟨"ButlerRemembers", "dreamOfNow", "()V"⟩ ⟨"ButlerRemembers", "dreamOfNow", "()V"⟩ ∈ tblG := tblG_at 19 (by decide +kernel) (by decide +kernel)
theorem w703 : (Cond.code ({ cls := "ButlerRemembers", name := "dreamOfNow", desc := "()V" } : Jvm.MethodName) prog_1_method_52_code (1 : Nat) (Option.none : Option Jvm.ClassFile.FieldType)) ∈ tblG := tblG_at 703 (by decide +kernel) (by decide +kernel)
theorem mX11_199 : zKV RX11 199 11 yX11_dreamOfNow cX11_dreamOfNow 1 none 0 := ⟨⟨_, _, rfl⟩, w700, w702, w19, w68, w703, by decide, by decide, by decide, by decide +kernel⟩
theorem w757 : (Cond.methodLink "ButlerRemembers" (202 : Nat) ({ cls := "ButlerRemembers$Household", name := "knownIn", desc := "([I)I" } : Jvm.MethodName)) ∈ tblG := tblG_at 757 (by decide +kernel) (by decide +kernel)
theorem w758 : (Cond.instanceMethod ({ cls := "ButlerRemembers$Household", name := "knownIn", desc := "([I)I" } : Jvm.MethodName)) ∈ tblG := tblG_at 758 (by decide +kernel) (by decide +kernel)
theorem w759 : (Cond.selects "ButlerRemembers$Household" ({ cls := "ButlerRemembers$Household", name := "knownIn", desc := "([I)I" } : Jvm.MethodName) ({ cls := "ButlerRemembers$Household", name := "knownIn", desc := "([I)I" } : Jvm.MethodName)) ∈ tblG := tblG_at 759 (by decide +kernel) (by decide +kernel)
theorem w760 : (Cond.code ({ cls := "ButlerRemembers$Household", name := "knownIn", desc := "([I)I" } : Jvm.MethodName) prog_8_method_12_code (4 : Nat) (Option.some Jvm.ClassFile.FieldType.int)) ∈ tblG := tblG_at 760 (by decide +kernel) (by decide +kernel)
theorem mX11_202 : zKV RX11 202 6 yX6_knownIn cX6_knownIn 4 (some .int) 1 := ⟨⟨_, _, rfl⟩, w757, w758, w759, w69, w760, by decide, by decide, by decide, by decide +kernel⟩
theorem w765 : (Cond.methodLink "ButlerRemembers" (208 : Nat) ({ cls := "ButlerRemembers$Household", name := "addSeen", desc := "(IIIZ)I" } : Jvm.MethodName)) ∈ tblG := tblG_at 765 (by decide +kernel) (by decide +kernel)
theorem w766 : (Cond.instanceMethod ({ cls := "ButlerRemembers$Household", name := "addSeen", desc := "(IIIZ)I" } : Jvm.MethodName)) ∈ tblG := tblG_at 766 (by decide +kernel) (by decide +kernel)
theorem w767 : (Cond.selects "ButlerRemembers$Household" ({ cls := "ButlerRemembers$Household", name := "addSeen", desc := "(IIIZ)I" } : Jvm.MethodName) ({ cls := "ButlerRemembers$Household", name := "addSeen", desc := "(IIIZ)I" } : Jvm.MethodName)) ∈ tblG := tblG_at 767 (by decide +kernel) (by decide +kernel)
theorem w768 : (Cond.code ({ cls := "ButlerRemembers$Household", name := "addSeen", desc := "(IIIZ)I" } : Jvm.MethodName) prog_8_method_8_code (6 : Nat) (Option.some Jvm.ClassFile.FieldType.int)) ∈ tblG := tblG_at 768 (by decide +kernel) (by decide +kernel)
theorem mX11_208 : zKV RX11 208 6 yX6_addSeen cX6_addSeen 6 (some .int) 4 := ⟨⟨_, _, rfl⟩, w765, w766, w767, w69, w768, by decide, by decide, by decide, by decide +kernel⟩
theorem w773 : (Cond.methodLink "ButlerRemembers" (216 : Nat) ({ cls := "ButlerRemembers", name := "isSo", desc := "(II)Z" } : Jvm.MethodName)) ∈ tblG := tblG_at 773 (by decide +kernel) (by decide +kernel)
theorem w775 : (Cond.instanceMethod ({ cls := "ButlerRemembers", name := "isSo", desc := "(II)Z" } : Jvm.MethodName)) ∈ tblG := tblG_at 775 (by decide +kernel) (by decide +kernel)
theorem w24 : Cond.selects "ButlerRemembers" ⟨"ButlerRemembers", "isSo", "(II)Z"⟩ ⟨"ButlerRemembers", "isSo", "(II)Z"⟩ ∈ tblG := tblG_at 24 (by decide +kernel) (by decide +kernel)
theorem w776 : (Cond.code ({ cls := "ButlerRemembers", name := "isSo", desc := "(II)Z" } : Jvm.MethodName) prog_1_method_57_code (7 : Nat) (Option.some Jvm.ClassFile.FieldType.boolean)) ∈ tblG := tblG_at 776 (by decide +kernel) (by decide +kernel)
theorem mX11_216 : zKV RX11 216 11 yX11_isSo cX11_isSo 7 (some .boolean) 2 := ⟨⟨_, _, rfl⟩, w773, w775, w24, w68, w776, by decide, by decide, by decide, by decide +kernel⟩
theorem w781 : (Cond.methodLink "ButlerRemembers" (220 : Nat) ({ cls := "ButlerRemembers", name := "isPart", desc := "(I)Z" } : Jvm.MethodName)) ∈ tblG := tblG_at 781 (by decide +kernel) (by decide +kernel)
theorem w782 : (Cond.static ({ cls := "ButlerRemembers", name := "isPart", desc := "(I)Z" } : Jvm.MethodName)) ∈ tblG := tblG_at 782 (by decide +kernel) (by decide +kernel)
theorem w783 : (Cond.code ({ cls := "ButlerRemembers", name := "isPart", desc := "(I)Z" } : Jvm.MethodName) prog_1_method_40_code (1 : Nat) (Option.some Jvm.ClassFile.FieldType.boolean)) ∈ tblG := tblG_at 783 (by decide +kernel) (by decide +kernel)
theorem mX11_220 : zKS RX11 220 yX11_isPart cX11_isPart 1 (some .boolean) 1 := ⟨w781, w782, w68, w783, by decide, by decide, by decide, by decide +kernel⟩
theorem w784 : (Cond.methodLink "ButlerRemembers" (223 : Nat) ({ cls := "ButlerRemembers", name := "fitsSeen", desc := "(II)Z" } : Jvm.MethodName)) ∈ tblG := tblG_at 784 (by decide +kernel) (by decide +kernel)
theorem w786 : (Cond.instanceMethod ({ cls := "ButlerRemembers", name := "fitsSeen", desc := "(II)Z" } : Jvm.MethodName)) ∈ tblG := tblG_at 786 (by decide +kernel) (by decide +kernel)
theorem w25 : Cond.selects "ButlerRemembers" ⟨"ButlerRemembers", "fitsSeen", "(II)Z"⟩ ⟨"ButlerRemembers", "fitsSeen", "(II)Z"⟩ ∈ tblG := tblG_at 25 (by decide +kernel) (by decide +kernel)
theorem w787 : (Cond.code ({ cls := "ButlerRemembers", name := "fitsSeen", desc := "(II)Z" } : Jvm.MethodName) prog_1_method_58_code (4 : Nat) (Option.some Jvm.ClassFile.FieldType.boolean)) ∈ tblG := tblG_at 787 (by decide +kernel) (by decide +kernel)
theorem mX11_223 : zKV RX11 223 11 yX11_fitsSeen cX11_fitsSeen 4 (some .boolean) 2 := ⟨⟨_, _, rfl⟩, w784, w786, w25, w68, w787, by decide, by decide, by decide, by decide +kernel⟩
theorem w715 : (Cond.methodLink "ButlerRemembers" (226 : Nat) ({ cls := "java/lang/Integer", name := "bitCount", desc := "(I)I" } : Jvm.MethodName)) ∈ tblG := tblG_at 715 (by decide +kernel) (by decide +kernel)
theorem w716 : (Cond.static ({ cls := "java/lang/Integer", name := "bitCount", desc := "(I)I" } : Jvm.MethodName)) ∈ tblG := tblG_at 716 (by decide +kernel) (by decide +kernel)
theorem w89 : (Cond.initialized "java/lang/Integer") ∈ tblG := tblG_at 89 (by decide +kernel) (by decide +kernel)
theorem w717 : (Cond.code ({ cls := "java/lang/Integer", name := "bitCount", desc := "(I)I" } : Jvm.MethodName) prog_16_method_49_code (1 : Nat) (Option.some Jvm.ClassFile.FieldType.int)) ∈ tblG := tblG_at 717 (by decide +kernel) (by decide +kernel)
theorem mX11_226 : zKS RX11 226 yJ6_bitCount_0f7a4 cJ6_bitCount_0f7a4 1 (some .int) 1 := ⟨w715, w716, w89, w717, by decide, by decide, by decide, by decide +kernel⟩
theorem w797 : (Cond.methodLink "ButlerRemembers" (236 : Nat) ({ cls := "ButlerRemembers", name := "partOfFraction", desc := "(III)J" } : Jvm.MethodName)) ∈ tblG := tblG_at 797 (by decide +kernel) (by decide +kernel)
theorem w798 : (Cond.static ({ cls := "ButlerRemembers", name := "partOfFraction", desc := "(III)J" } : Jvm.MethodName)) ∈ tblG := tblG_at 798 (by decide +kernel) (by decide +kernel)
theorem w799 : (Cond.code ({ cls := "ButlerRemembers", name := "partOfFraction", desc := "(III)J" } : Jvm.MethodName) prog_1_method_43_code (4 : Nat) (Option.some Jvm.ClassFile.FieldType.long)) ∈ tblG := tblG_at 799 (by decide +kernel) (by decide +kernel)
theorem mX11_236 : zKS RX11 236 yX11_partOfFraction cX11_partOfFraction 4 (some .long) 3 := ⟨w797, w798, w68, w799, by decide, by decide, by decide, by decide +kernel⟩
theorem w808 : (Cond.methodLink "ButlerRemembers" (246 : Nat) ({ cls := "ButlerRemembers$Household", name := "addPlan", desc := "(II)I" } : Jvm.MethodName)) ∈ tblG := tblG_at 808 (by decide +kernel) (by decide +kernel)
theorem w809 : (Cond.instanceMethod ({ cls := "ButlerRemembers$Household", name := "addPlan", desc := "(II)I" } : Jvm.MethodName)) ∈ tblG := tblG_at 809 (by decide +kernel) (by decide +kernel)
theorem w810 : (Cond.selects "ButlerRemembers$Household" ({ cls := "ButlerRemembers$Household", name := "addPlan", desc := "(II)I" } : Jvm.MethodName) ({ cls := "ButlerRemembers$Household", name := "addPlan", desc := "(II)I" } : Jvm.MethodName)) ∈ tblG := tblG_at 810 (by decide +kernel) (by decide +kernel)
theorem w811 : (Cond.code ({ cls := "ButlerRemembers$Household", name := "addPlan", desc := "(II)I" } : Jvm.MethodName) prog_8_method_9_code (3 : Nat) (Option.some Jvm.ClassFile.FieldType.int)) ∈ tblG := tblG_at 811 (by decide +kernel) (by decide +kernel)
theorem mX11_246 : zKV RX11 246 6 yX6_addPlan cX6_addPlan 3 (some .int) 2 := ⟨⟨_, _, rfl⟩, w808, w809, w810, w69, w811, by decide, by decide, by decide, by decide +kernel⟩
theorem w816 : (Cond.methodLink "ButlerRemembers" (252 : Nat) ({ cls := "ButlerRemembers", name := "dreamOfRow", desc := "(I)V" } : Jvm.MethodName)) ∈ tblG := tblG_at 816 (by decide +kernel) (by decide +kernel)
theorem w818 : (Cond.instanceMethod ({ cls := "ButlerRemembers", name := "dreamOfRow", desc := "(I)V" } : Jvm.MethodName)) ∈ tblG := tblG_at 818 (by decide +kernel) (by decide +kernel)
theorem w26 : Cond.selects "ButlerRemembers" ⟨"ButlerRemembers", "dreamOfRow", "(I)V"⟩ ⟨"ButlerRemembers", "dreamOfRow", "(I)V"⟩ ∈ tblG := tblG_at 26 (by decide +kernel) (by decide +kernel)
theorem w819 : (Cond.code ({ cls := "ButlerRemembers", name := "dreamOfRow", desc := "(I)V" } : Jvm.MethodName) prog_1_method_53_code (5 : Nat) (Option.none : Option Jvm.ClassFile.FieldType)) ∈ tblG := tblG_at 819 (by decide +kernel) (by decide +kernel)
theorem mX11_252 : zKV RX11 252 11 yX11_dreamOfRow cX11_dreamOfRow 5 none 1 := ⟨⟨_, _, rfl⟩, w816, w818, w26, w68, w819, by decide, by decide, by decide, by decide +kernel⟩
theorem w824 : (Cond.methodLink "ButlerRemembers" (259 : Nat) ({ cls := "ButlerRemembers$Household", name := "addBook", desc := "(II)I" } : Jvm.MethodName)) ∈ tblG := tblG_at 824 (by decide +kernel) (by decide +kernel)
theorem w825 : (Cond.instanceMethod ({ cls := "ButlerRemembers$Household", name := "addBook", desc := "(II)I" } : Jvm.MethodName)) ∈ tblG := tblG_at 825 (by decide +kernel) (by decide +kernel)
theorem w826 : (Cond.selects "ButlerRemembers$Household" ({ cls := "ButlerRemembers$Household", name := "addBook", desc := "(II)I" } : Jvm.MethodName) ({ cls := "ButlerRemembers$Household", name := "addBook", desc := "(II)I" } : Jvm.MethodName)) ∈ tblG := tblG_at 826 (by decide +kernel) (by decide +kernel)
theorem w827 : (Cond.code ({ cls := "ButlerRemembers$Household", name := "addBook", desc := "(II)I" } : Jvm.MethodName) prog_8_method_10_code (3 : Nat) (Option.some Jvm.ClassFile.FieldType.int)) ∈ tblG := tblG_at 827 (by decide +kernel) (by decide +kernel)
theorem mX11_259 : zKV RX11 259 6 yX6_addBook cX6_addBook 3 (some .int) 2 := ⟨⟨_, _, rfl⟩, w824, w825, w826, w69, w827, by decide, by decide, by decide, by decide +kernel⟩
theorem w836 : (Cond.methodLink "ButlerRemembers" (265 : Nat) ({ cls := "ButlerRemembers", name := "isTape", desc := "(I)Z" } : Jvm.MethodName)) ∈ tblG := tblG_at 836 (by decide +kernel) (by decide +kernel)
theorem w837 : (Cond.static ({ cls := "ButlerRemembers", name := "isTape", desc := "(I)Z" } : Jvm.MethodName)) ∈ tblG := tblG_at 837 (by decide +kernel) (by decide +kernel)
theorem w838 : (Cond.code ({ cls := "ButlerRemembers", name := "isTape", desc := "(I)Z" } : Jvm.MethodName) prog_1_method_41_code (1 : Nat) (Option.some Jvm.ClassFile.FieldType.boolean)) ∈ tblG := tblG_at 838 (by decide +kernel) (by decide +kernel)
theorem mX11_265 : zKS RX11 265 yX11_isTape cX11_isTape 1 (some .boolean) 1 := ⟨w836, w837, w68, w838, by decide, by decide, by decide, by decide +kernel⟩
theorem w839 : (Cond.methodLink "ButlerRemembers" (268 : Nat) ({ cls := "ButlerRemembers$Tape", name := "holdsRow", desc := "()Z" } : Jvm.MethodName)) ∈ tblG := tblG_at 839 (by decide +kernel) (by decide +kernel)
theorem w840 : (Cond.instanceMethod ({ cls := "ButlerRemembers$Tape", name := "holdsRow", desc := "()Z" } : Jvm.MethodName)) ∈ tblG := tblG_at 840 (by decide +kernel) (by decide +kernel)
theorem w841 : (Cond.selects "ButlerRemembers$Tape" ({ cls := "ButlerRemembers$Tape", name := "holdsRow", desc := "()Z" } : Jvm.MethodName) ({ cls := "ButlerRemembers$Tape", name := "holdsRow", desc := "()Z" } : Jvm.MethodName)) ∈ tblG := tblG_at 841 (by decide +kernel) (by decide +kernel)
theorem w79 : (Cond.initialized "ButlerRemembers$Tape") ∈ tblG := tblG_at 79 (by decide +kernel) (by decide +kernel)
theorem w842 : (Cond.code ({ cls := "ButlerRemembers$Tape", name := "holdsRow", desc := "()Z" } : Jvm.MethodName) prog_10_method_3_code (1 : Nat) (Option.some Jvm.ClassFile.FieldType.boolean)) ∈ tblG := tblG_at 842 (by decide +kernel) (by decide +kernel)
theorem mX11_268 : zKV RX11 268 8 yX8_holdsRow cX8_holdsRow 1 (some .boolean) 0 := ⟨⟨_, _, rfl⟩, w839, w840, w841, w79, w842, by decide, by decide, by decide, by decide +kernel⟩
theorem w843 : (Cond.methodLink "ButlerRemembers" (274 : Nat) ({ cls := "ButlerRemembers$Tape", name := "hasPlace", desc := "(J)Z" } : Jvm.MethodName)) ∈ tblG := tblG_at 843 (by decide +kernel) (by decide +kernel)
theorem w844 : (Cond.instanceMethod ({ cls := "ButlerRemembers$Tape", name := "hasPlace", desc := "(J)Z" } : Jvm.MethodName)) ∈ tblG := tblG_at 844 (by decide +kernel) (by decide +kernel)
theorem w845 : (Cond.selects "ButlerRemembers$Tape" ({ cls := "ButlerRemembers$Tape", name := "hasPlace", desc := "(J)Z" } : Jvm.MethodName) ({ cls := "ButlerRemembers$Tape", name := "hasPlace", desc := "(J)Z" } : Jvm.MethodName)) ∈ tblG := tblG_at 845 (by decide +kernel) (by decide +kernel)
theorem w846 : (Cond.code ({ cls := "ButlerRemembers$Tape", name := "hasPlace", desc := "(J)Z" } : Jvm.MethodName) prog_10_method_4_code (3 : Nat) (Option.some Jvm.ClassFile.FieldType.boolean)) ∈ tblG := tblG_at 846 (by decide +kernel) (by decide +kernel)
theorem mX11_274 : zKV RX11 274 8 yX8_hasPlace cX8_hasPlace 3 (some .boolean) 1 := ⟨⟨_, _, rfl⟩, w843, w844, w845, w79, w846, by decide, by decide, by decide, by decide +kernel⟩
theorem w852 : (Cond.methodLink "ButlerRemembers" (282 : Nat) ({ cls := "ButlerRemembers$Household", name := "copyFrom", desc := "(LButlerRemembers$Household;)V" } : Jvm.MethodName)) ∈ tblG := tblG_at 852 (by decide +kernel) (by decide +kernel)
theorem w853 : (Cond.instanceMethod ({ cls := "ButlerRemembers$Household", name := "copyFrom", desc := "(LButlerRemembers$Household;)V" } : Jvm.MethodName)) ∈ tblG := tblG_at 853 (by decide +kernel) (by decide +kernel)
theorem w854 : (Cond.selects "ButlerRemembers$Household" ({ cls := "ButlerRemembers$Household", name := "copyFrom", desc := "(LButlerRemembers$Household;)V" } : Jvm.MethodName) ({ cls := "ButlerRemembers$Household", name := "copyFrom", desc := "(LButlerRemembers$Household;)V" } : Jvm.MethodName)) ∈ tblG := tblG_at 854 (by decide +kernel) (by decide +kernel)
theorem w855 : (Cond.code ({ cls := "ButlerRemembers$Household", name := "copyFrom", desc := "(LButlerRemembers$Household;)V" } : Jvm.MethodName) prog_8_method_19_code (2 : Nat) (Option.none : Option Jvm.ClassFile.FieldType)) ∈ tblG := tblG_at 855 (by decide +kernel) (by decide +kernel)
theorem mX11_282 : zKV RX11 282 6 yX6_copyFrom cX6_copyFrom 2 none 1 := ⟨⟨_, _, rfl⟩, w852, w853, w854, w69, w855, by decide, by decide, by decide, by decide +kernel⟩
theorem w872 : (Cond.methodLink "ButlerRemembers" (286 : Nat) ({ cls := "ButlerRemembers$Turn", name := "clear", desc := "()V" } : Jvm.MethodName)) ∈ tblG := tblG_at 872 (by decide +kernel) (by decide +kernel)
theorem w873 : (Cond.instanceMethod ({ cls := "ButlerRemembers$Turn", name := "clear", desc := "()V" } : Jvm.MethodName)) ∈ tblG := tblG_at 873 (by decide +kernel) (by decide +kernel)
theorem w874 : (Cond.selects "ButlerRemembers$Turn" ({ cls := "ButlerRemembers$Turn", name := "clear", desc := "()V" } : Jvm.MethodName) ({ cls := "ButlerRemembers$Turn", name := "clear", desc := "()V" } : Jvm.MethodName)) ∈ tblG := tblG_at 874 (by decide +kernel) (by decide +kernel)
theorem w875 : (Cond.code ({ cls := "ButlerRemembers$Turn", name := "clear", desc := "()V" } : Jvm.MethodName) prog_12_method_2_code (1 : Nat) (Option.none : Option Jvm.ClassFile.FieldType)) ∈ tblG := tblG_at 875 (by decide +kernel) (by decide +kernel)
theorem mX11_286 : zKV RX11 286 10 yX10_clear cX10_clear 1 none 0 := ⟨⟨_, _, rfl⟩, w872, w873, w874, w78, w875, by decide, by decide, by decide, by decide +kernel⟩
theorem w418 : (Cond.methodLink "ButlerRemembers" (295 : Nat) ({ cls := "ButlerRemembers", name := "mannersOf", desc := "(I)LButlerRemembers$Master;" } : Jvm.MethodName)) ∈ tblG := tblG_at 418 (by decide +kernel) (by decide +kernel)
theorem w420 : (Cond.instanceMethod ({ cls := "ButlerRemembers", name := "mannersOf", desc := "(I)LButlerRemembers$Master;" } : Jvm.MethodName)) ∈ tblG := tblG_at 420 (by decide +kernel) (by decide +kernel)
theorem w7 : Cond.selects "ButlerRemembers" ⟨"ButlerRemembers", "mannersOf", "(I)LButlerRemembers$Master;"⟩ ⟨"ButlerRemembers", "mannersOf", "(I)LButlerRemembers$Master;"⟩ ∈ tblG := tblG_at 7 (by decide +kernel) (by decide +kernel)
theorem w421 : (Cond.code ({ cls := "ButlerRemembers", name := "mannersOf", desc := "(I)LButlerRemembers$Master;" } : Jvm.MethodName) prog_1_method_45_code (3 : Nat) (Option.some (Jvm.ClassFile.FieldType.object "ButlerRemembers$Master"))) ∈ tblG := tblG_at 421 (by decide +kernel) (by decide +kernel)
theorem mX11_295 : zKV RX11 295 11 yX11_mannersOf cX11_mannersOf 3 (some (.object "ButlerRemembers$Master")) 1 := ⟨⟨_, _, rfl⟩, w418, w420, w7, w68, w421, by decide, by decide, by decide, by decide +kernel⟩
theorem w876 : (Cond.methodLink "ButlerRemembers" (299 : Nat) ({ cls := "ButlerRemembers$Master", name := "dines", desc := "(LButlerRemembers$Turn;I)I" } : Jvm.MethodName)) ∈ tblG := tblG_at 876 (by decide +kernel) (by decide +kernel)
theorem w879 : (Cond.sameMethod "ButlerRemembers$Master" "ButlerRemembers$Master" "dines" "(LButlerRemembers$Turn;I)I") ∈ tblG := tblG_at 879 (by decide +kernel) (by decide +kernel)
theorem w880 : (Cond.selects "ButlerRemembers$Bishop" ({ cls := "ButlerRemembers$Master", name := "dines", desc := "(LButlerRemembers$Turn;I)I" } : Jvm.MethodName) ({ cls := "ButlerRemembers$Bishop", name := "dines", desc := "(LButlerRemembers$Turn;I)I" } : Jvm.MethodName)) ∈ tblG := tblG_at 880 (by decide +kernel) (by decide +kernel)
theorem w881 : (Cond.instanceMethod ({ cls := "ButlerRemembers$Bishop", name := "dines", desc := "(LButlerRemembers$Turn;I)I" } : Jvm.MethodName)) ∈ tblG := tblG_at 881 (by decide +kernel) (by decide +kernel)
theorem w74 : (Cond.initialized "ButlerRemembers$Bishop") ∈ tblG := tblG_at 74 (by decide +kernel) (by decide +kernel)
theorem w882 : (Cond.code ({ cls := "ButlerRemembers$Bishop", name := "dines", desc := "(LButlerRemembers$Turn;I)I" } : Jvm.MethodName) prog_2_method_3_code (3 : Nat) (Option.some Jvm.ClassFile.FieldType.int)) ∈ tblG := tblG_at 882 (by decide +kernel) (by decide +kernel)
theorem mX11_299_0 : zKU RX11 299 0 RX0 "ButlerRemembers$Master" ⟨"ButlerRemembers$Master", "dines", "(LButlerRemembers$Turn;I)I"⟩ yX0_dines cX0_dines 3 (some .int) 2 := ⟨⟨_, _, rfl⟩, w876, w879, w877, ⟨cX7_dines, 3, (some .int), w904⟩, w880, w881, w74, w882, by decide, by decide, by decide, by decide +kernel⟩
theorem w890 : (Cond.selects "ButlerRemembers$Cousin" ({ cls := "ButlerRemembers$Master", name := "dines", desc := "(LButlerRemembers$Turn;I)I" } : Jvm.MethodName) ({ cls := "ButlerRemembers$Master", name := "dines", desc := "(LButlerRemembers$Turn;I)I" } : Jvm.MethodName)) ∈ tblG := tblG_at 890 (by decide +kernel) (by decide +kernel)
theorem mX11_299_1 : zKU RX11 299 1 RX1 "ButlerRemembers$Master" ⟨"ButlerRemembers$Master", "dines", "(LButlerRemembers$Turn;I)I"⟩ yX7_dines cX7_dines 3 (some .int) 2 := ⟨⟨_, _, rfl⟩, w876, w879, w877, ⟨cX7_dines, 3, (some .int), w904⟩, w890, w877, w70, w904, by decide, by decide, by decide, by decide +kernel⟩
theorem w891 : (Cond.selects "ButlerRemembers$Daughter" ({ cls := "ButlerRemembers$Master", name := "dines", desc := "(LButlerRemembers$Turn;I)I" } : Jvm.MethodName) ({ cls := "ButlerRemembers$Duchess", name := "dines", desc := "(LButlerRemembers$Turn;I)I" } : Jvm.MethodName)) ∈ tblG := tblG_at 891 (by decide +kernel) (by decide +kernel)
theorem w892 : (Cond.instanceMethod ({ cls := "ButlerRemembers$Duchess", name := "dines", desc := "(LButlerRemembers$Turn;I)I" } : Jvm.MethodName)) ∈ tblG := tblG_at 892 (by decide +kernel) (by decide +kernel)
theorem w72 : (Cond.initialized "ButlerRemembers$Duchess") ∈ tblG := tblG_at 72 (by decide +kernel) (by decide +kernel)
theorem w893 : (Cond.code ({ cls := "ButlerRemembers$Duchess", name := "dines", desc := "(LButlerRemembers$Turn;I)I" } : Jvm.MethodName) prog_5_method_3_code (3 : Nat) (Option.some Jvm.ClassFile.FieldType.int)) ∈ tblG := tblG_at 893 (by decide +kernel) (by decide +kernel)
theorem mX11_299_2 : zKU RX11 299 2 RX2 "ButlerRemembers$Master" ⟨"ButlerRemembers$Master", "dines", "(LButlerRemembers$Turn;I)I"⟩ yX3_dines cX3_dines 3 (some .int) 2 := ⟨⟨_, _, rfl⟩, w876, w879, w877, ⟨cX7_dines, 3, (some .int), w904⟩, w891, w892, w72, w893, by decide, by decide, by decide, by decide +kernel⟩
theorem w896 : (Cond.selects "ButlerRemembers$Duchess" ({ cls := "ButlerRemembers$Master", name := "dines", desc := "(LButlerRemembers$Turn;I)I" } : Jvm.MethodName) ({ cls := "ButlerRemembers$Duchess", name := "dines", desc := "(LButlerRemembers$Turn;I)I" } : Jvm.MethodName)) ∈ tblG := tblG_at 896 (by decide +kernel) (by decide +kernel)
theorem mX11_299_3 : zKU RX11 299 3 RX3 "ButlerRemembers$Master" ⟨"ButlerRemembers$Master", "dines", "(LButlerRemembers$Turn;I)I"⟩ yX3_dines cX3_dines 3 (some .int) 2 := ⟨⟨_, _, rfl⟩, w876, w879, w877, ⟨cX7_dines, 3, (some .int), w904⟩, w896, w892, w72, w893, by decide, by decide, by decide, by decide +kernel⟩
theorem w897 : (Cond.selects "ButlerRemembers$Heir" ({ cls := "ButlerRemembers$Master", name := "dines", desc := "(LButlerRemembers$Turn;I)I" } : Jvm.MethodName) ({ cls := "ButlerRemembers$Master", name := "dines", desc := "(LButlerRemembers$Turn;I)I" } : Jvm.MethodName)) ∈ tblG := tblG_at 897 (by decide +kernel) (by decide +kernel)
theorem mX11_299_4 : zKU RX11 299 4 RX4 "ButlerRemembers$Master" ⟨"ButlerRemembers$Master", "dines", "(LButlerRemembers$Turn;I)I"⟩ yX7_dines cX7_dines 3 (some .int) 2 := ⟨⟨_, _, rfl⟩, w876, w879, w877, ⟨cX7_dines, 3, (some .int), w904⟩, w897, w877, w70, w904, by decide, by decide, by decide, by decide +kernel⟩
theorem w878 : (Cond.selects "ButlerRemembers$Master" ({ cls := "ButlerRemembers$Master", name := "dines", desc := "(LButlerRemembers$Turn;I)I" } : Jvm.MethodName) ({ cls := "ButlerRemembers$Master", name := "dines", desc := "(LButlerRemembers$Turn;I)I" } : Jvm.MethodName)) ∈ tblG := tblG_at 878 (by decide +kernel) (by decide +kernel)
theorem mX11_299_7 : zKV RX11 299 7 yX7_dines cX7_dines 3 (some .int) 2 := ⟨⟨_, _, rfl⟩, w876, w877, w878, w70, w904, by decide, by decide, by decide, by decide +kernel⟩
theorem w898 : (Cond.selects "ButlerRemembers$Told" ({ cls := "ButlerRemembers$Master", name := "dines", desc := "(LButlerRemembers$Turn;I)I" } : Jvm.MethodName) ({ cls := "ButlerRemembers$Told", name := "dines", desc := "(LButlerRemembers$Turn;I)I" } : Jvm.MethodName)) ∈ tblG := tblG_at 898 (by decide +kernel) (by decide +kernel)
theorem w899 : (Cond.instanceMethod ({ cls := "ButlerRemembers$Told", name := "dines", desc := "(LButlerRemembers$Turn;I)I" } : Jvm.MethodName)) ∈ tblG := tblG_at 899 (by decide +kernel) (by decide +kernel)
theorem w900 : (Cond.code ({ cls := "ButlerRemembers$Told", name := "dines", desc := "(LButlerRemembers$Turn;I)I" } : Jvm.MethodName) prog_11_method_4_code (3 : Nat) (Option.some Jvm.ClassFile.FieldType.int)) ∈ tblG := tblG_at 900 (by decide +kernel) (by decide +kernel)
theorem mX11_299_9 : zKU RX11 299 9 RX9 "ButlerRemembers$Master" ⟨"ButlerRemembers$Master", "dines", "(LButlerRemembers$Turn;I)I"⟩ yX9_dines cX9_dines 3 (some .int) 2 := ⟨⟨_, _, rfl⟩, w876, w879, w877, ⟨cX7_dines, 3, (some .int), w904⟩, w898, w899, w76, w900, by decide, by decide, by decide, by decide +kernel⟩
theorem w906 : (Cond.methodLink "ButlerRemembers" (303 : Nat) ({ cls := "ButlerRemembers$Master", name := "nods", desc := "(LButlerRemembers$Turn;I)I" } : Jvm.MethodName)) ∈ tblG := tblG_at 906 (by decide +kernel) (by decide +kernel)
theorem w909 : (Cond.sameMethod "ButlerRemembers$Master" "ButlerRemembers$Master" "nods" "(LButlerRemembers$Turn;I)I") ∈ tblG := tblG_at 909 (by decide +kernel) (by decide +kernel)
theorem w910 : (Cond.selects "ButlerRemembers$Bishop" ({ cls := "ButlerRemembers$Master", name := "nods", desc := "(LButlerRemembers$Turn;I)I" } : Jvm.MethodName) ({ cls := "ButlerRemembers$Bishop", name := "nods", desc := "(LButlerRemembers$Turn;I)I" } : Jvm.MethodName)) ∈ tblG := tblG_at 910 (by decide +kernel) (by decide +kernel)
theorem w911 : (Cond.instanceMethod ({ cls := "ButlerRemembers$Bishop", name := "nods", desc := "(LButlerRemembers$Turn;I)I" } : Jvm.MethodName)) ∈ tblG := tblG_at 911 (by decide +kernel) (by decide +kernel)
theorem w912 : (Cond.code ({ cls := "ButlerRemembers$Bishop", name := "nods", desc := "(LButlerRemembers$Turn;I)I" } : Jvm.MethodName) prog_2_method_4_code (3 : Nat) (Option.some Jvm.ClassFile.FieldType.int)) ∈ tblG := tblG_at 912 (by decide +kernel) (by decide +kernel)
theorem mX11_303_0 : zKU RX11 303 0 RX0 "ButlerRemembers$Master" ⟨"ButlerRemembers$Master", "nods", "(LButlerRemembers$Turn;I)I"⟩ yX0_nods cX0_nods 3 (some .int) 2 := ⟨⟨_, _, rfl⟩, w906, w909, w907, ⟨cX7_nods, 3, (some .int), w928⟩, w910, w911, w74, w912, by decide, by decide, by decide, by decide +kernel⟩
theorem w918 : (Cond.selects "ButlerRemembers$Cousin" ({ cls := "ButlerRemembers$Master", name := "nods", desc := "(LButlerRemembers$Turn;I)I" } : Jvm.MethodName) ({ cls := "ButlerRemembers$Master", name := "nods", desc := "(LButlerRemembers$Turn;I)I" } : Jvm.MethodName)) ∈ tblG := tblG_at 918 (by decide +kernel) (by decide +kernel)
theorem mX11_303_1 : zKU RX11 303 1 RX1 "ButlerRemembers$Master" ⟨"ButlerRemembers$Master", "nods", "(LButlerRemembers$Turn;I)I"⟩ yX7_nods cX7_nods 3 (some .int) 2 := ⟨⟨_, _, rfl⟩, w906, w909, w907, ⟨cX7_nods, 3, (some .int), w928⟩, w918, w907, w70, w928, by decide, by decide, by decide, by decide +kernel⟩
theorem w919 : (Cond.selects "ButlerRemembers$Daughter" ({ cls := "ButlerRemembers$Master", name := "nods", desc := "(LButlerRemembers$Turn;I)I" } : Jvm.MethodName) ({ cls := "ButlerRemembers$Master", name := "nods", desc := "(LButlerRemembers$Turn;I)I" } : Jvm.MethodName)) ∈ tblG := tblG_at 919 (by decide +kernel) (by decide +kernel)
theorem mX11_303_2 : zKU RX11 303 2 RX2 "ButlerRemembers$Master" ⟨"ButlerRemembers$Master", "nods", "(LButlerRemembers$Turn;I)I"⟩ yX7_nods cX7_nods 3 (some .int) 2 := ⟨⟨_, _, rfl⟩, w906, w909, w907, ⟨cX7_nods, 3, (some .int), w928⟩, w919, w907, w70, w928, by decide, by decide, by decide, by decide +kernel⟩
theorem w920 : (Cond.selects "ButlerRemembers$Duchess" ({ cls := "ButlerRemembers$Master", name := "nods", desc := "(LButlerRemembers$Turn;I)I" } : Jvm.MethodName) ({ cls := "ButlerRemembers$Master", name := "nods", desc := "(LButlerRemembers$Turn;I)I" } : Jvm.MethodName)) ∈ tblG := tblG_at 920 (by decide +kernel) (by decide +kernel)
theorem mX11_303_3 : zKU RX11 303 3 RX3 "ButlerRemembers$Master" ⟨"ButlerRemembers$Master", "nods", "(LButlerRemembers$Turn;I)I"⟩ yX7_nods cX7_nods 3 (some .int) 2 := ⟨⟨_, _, rfl⟩, w906, w909, w907, ⟨cX7_nods, 3, (some .int), w928⟩, w920, w907, w70, w928, by decide, by decide, by decide, by decide +kernel⟩
theorem w921 : (Cond.selects "ButlerRemembers$Heir" ({ cls := "ButlerRemembers$Master", name := "nods", desc := "(LButlerRemembers$Turn;I)I" } : Jvm.MethodName) ({ cls := "ButlerRemembers$Heir", name := "nods", desc := "(LButlerRemembers$Turn;I)I" } : Jvm.MethodName)) ∈ tblG := tblG_at 921 (by decide +kernel) (by decide +kernel)
theorem mX11_303_4 : zKU RX11 303 4 RX4 "ButlerRemembers$Master" ⟨"ButlerRemembers$Master", "nods", "(LButlerRemembers$Turn;I)I"⟩ yX4_nods cX4_nods 3 (some .int) 2 := ⟨⟨_, _, rfl⟩, w906, w909, w907, ⟨cX7_nods, 3, (some .int), w928⟩, w921, w914, w71, w915, by decide, by decide, by decide, by decide +kernel⟩
theorem w908 : (Cond.selects "ButlerRemembers$Master" ({ cls := "ButlerRemembers$Master", name := "nods", desc := "(LButlerRemembers$Turn;I)I" } : Jvm.MethodName) ({ cls := "ButlerRemembers$Master", name := "nods", desc := "(LButlerRemembers$Turn;I)I" } : Jvm.MethodName)) ∈ tblG := tblG_at 908 (by decide +kernel) (by decide +kernel)
theorem mX11_303_7 : zKV RX11 303 7 yX7_nods cX7_nods 3 (some .int) 2 := ⟨⟨_, _, rfl⟩, w906, w907, w908, w70, w928, by decide, by decide, by decide, by decide +kernel⟩
theorem w922 : (Cond.selects "ButlerRemembers$Told" ({ cls := "ButlerRemembers$Master", name := "nods", desc := "(LButlerRemembers$Turn;I)I" } : Jvm.MethodName) ({ cls := "ButlerRemembers$Told", name := "nods", desc := "(LButlerRemembers$Turn;I)I" } : Jvm.MethodName)) ∈ tblG := tblG_at 922 (by decide +kernel) (by decide +kernel)
theorem mX11_303_9 : zKU RX11 303 9 RX9 "ButlerRemembers$Master" ⟨"ButlerRemembers$Master", "nods", "(LButlerRemembers$Turn;I)I"⟩ yX9_nods cX9_nods 3 (some .int) 2 := ⟨⟨_, _, rfl⟩, w906, w909, w907, ⟨cX7_nods, 3, (some .int), w928⟩, w922, w923, w76, w924, by decide, by decide, by decide, by decide +kernel⟩
theorem w930 : (Cond.methodLink "ButlerRemembers" (306 : Nat) ({ cls := "ButlerRemembers$Master", name := "tells", desc := "(LButlerRemembers$Turn;I)I" } : Jvm.MethodName)) ∈ tblG := tblG_at 930 (by decide +kernel) (by decide +kernel)
theorem w934 : (Cond.selects "ButlerRemembers$Bishop" ({ cls := "ButlerRemembers$Master", name := "tells", desc := "(LButlerRemembers$Turn;I)I" } : Jvm.MethodName) ({ cls := "ButlerRemembers$Master", name := "tells", desc := "(LButlerRemembers$Turn;I)I" } : Jvm.MethodName)) ∈ tblG := tblG_at 934 (by decide +kernel) (by decide +kernel)
theorem mX11_306_0 : zKU RX11 306 0 RX0 "ButlerRemembers$Master" ⟨"ButlerRemembers$Master", "tells", "(LButlerRemembers$Turn;I)I"⟩ yX7_tells cX7_tells 3 (some .int) 2 := ⟨⟨_, _, rfl⟩, w930, w933, w931, ⟨cX7_tells, 3, (some .int), w953⟩, w934, w931, w70, w953, by decide, by decide, by decide, by decide +kernel⟩
theorem w935 : (Cond.selects "ButlerRemembers$Cousin" ({ cls := "ButlerRemembers$Master", name := "tells", desc := "(LButlerRemembers$Turn;I)I" } : Jvm.MethodName) ({ cls := "ButlerRemembers$Cousin", name := "tells", desc := "(LButlerRemembers$Turn;I)I" } : Jvm.MethodName)) ∈ tblG := tblG_at 935 (by decide +kernel) (by decide +kernel)
theorem w936 : (Cond.instanceMethod ({ cls := "ButlerRemembers$Cousin", name := "tells", desc := "(LButlerRemembers$Turn;I)I" } : Jvm.MethodName)) ∈ tblG := tblG_at 936 (by decide +kernel) (by decide +kernel)
theorem w73 : (Cond.initialized "ButlerRemembers$Cousin") ∈ tblG := tblG_at 73 (by decide +kernel) (by decide +kernel)
theorem w937 : (Cond.code ({ cls := "ButlerRemembers$Cousin", name := "tells", desc := "(LButlerRemembers$Turn;I)I" } : Jvm.MethodName) prog_3_method_3_code (3 : Nat) (Option.some Jvm.ClassFile.FieldType.int)) ∈ tblG := tblG_at 937 (by decide +kernel) (by decide +kernel)
theorem mX11_306_1 : zKU RX11 306 1 RX1 "ButlerRemembers$Master" ⟨"ButlerRemembers$Master", "tells", "(LButlerRemembers$Turn;I)I"⟩ yX1_tells cX1_tells 3 (some .int) 2 := ⟨⟨_, _, rfl⟩, w930, w933, w931, ⟨cX7_tells, 3, (some .int), w953⟩, w935, w936, w73, w937, by decide, by decide, by decide, by decide +kernel⟩
theorem w943 : (Cond.selects "ButlerRemembers$Daughter" ({ cls := "ButlerRemembers$Master", name := "tells", desc := "(LButlerRemembers$Turn;I)I" } : Jvm.MethodName) ({ cls := "ButlerRemembers$Daughter", name := "tells", desc := "(LButlerRemembers$Turn;I)I" } : Jvm.MethodName)) ∈ tblG := tblG_at 943 (by decide +kernel) (by decide +kernel)
theorem w944 : (Cond.instanceMethod ({ cls := "ButlerRemembers$Daughter", name := "tells", desc := "(LButlerRemembers$Turn;I)I" } : Jvm.MethodName)) ∈ tblG := tblG_at 944 (by decide +kernel) (by decide +kernel)
theorem w75 : (Cond.initialized "ButlerRemembers$Daughter") ∈ tblG := tblG_at 75 (by decide +kernel) (by decide +kernel)
theorem w945 : (Cond.code ({ cls := "ButlerRemembers$Daughter", name := "tells", desc := "(LButlerRemembers$Turn;I)I" } : Jvm.MethodName) prog_4_method_3_code (3 : Nat) (Option.some Jvm.ClassFile.FieldType.int)) ∈ tblG := tblG_at 945 (by decide +kernel) (by decide +kernel)
theorem mX11_306_2 : zKU RX11 306 2 RX2 "ButlerRemembers$Master" ⟨"ButlerRemembers$Master", "tells", "(LButlerRemembers$Turn;I)I"⟩ yX2_tells cX2_tells 3 (some .int) 2 := ⟨⟨_, _, rfl⟩, w930, w933, w931, ⟨cX7_tells, 3, (some .int), w953⟩, w943, w944, w75, w945, by decide, by decide, by decide, by decide +kernel⟩
theorem w950 : (Cond.selects "ButlerRemembers$Duchess" ({ cls := "ButlerRemembers$Master", name := "tells", desc := "(LButlerRemembers$Turn;I)I" } : Jvm.MethodName) ({ cls := "ButlerRemembers$Master", name := "tells", desc := "(LButlerRemembers$Turn;I)I" } : Jvm.MethodName)) ∈ tblG := tblG_at 950 (by decide +kernel) (by decide +kernel)
theorem mX11_306_3 : zKU RX11 306 3 RX3 "ButlerRemembers$Master" ⟨"ButlerRemembers$Master", "tells", "(LButlerRemembers$Turn;I)I"⟩ yX7_tells cX7_tells 3 (some .int) 2 := ⟨⟨_, _, rfl⟩, w930, w933, w931, ⟨cX7_tells, 3, (some .int), w953⟩, w950, w931, w70, w953, by decide, by decide, by decide, by decide +kernel⟩
theorem w951 : (Cond.selects "ButlerRemembers$Heir" ({ cls := "ButlerRemembers$Master", name := "tells", desc := "(LButlerRemembers$Turn;I)I" } : Jvm.MethodName) ({ cls := "ButlerRemembers$Master", name := "tells", desc := "(LButlerRemembers$Turn;I)I" } : Jvm.MethodName)) ∈ tblG := tblG_at 951 (by decide +kernel) (by decide +kernel)
theorem mX11_306_4 : zKU RX11 306 4 RX4 "ButlerRemembers$Master" ⟨"ButlerRemembers$Master", "tells", "(LButlerRemembers$Turn;I)I"⟩ yX7_tells cX7_tells 3 (some .int) 2 := ⟨⟨_, _, rfl⟩, w930, w933, w931, ⟨cX7_tells, 3, (some .int), w953⟩, w951, w931, w70, w953, by decide, by decide, by decide, by decide +kernel⟩
theorem w932 : (Cond.selects "ButlerRemembers$Master" ({ cls := "ButlerRemembers$Master", name := "tells", desc := "(LButlerRemembers$Turn;I)I" } : Jvm.MethodName) ({ cls := "ButlerRemembers$Master", name := "tells", desc := "(LButlerRemembers$Turn;I)I" } : Jvm.MethodName)) ∈ tblG := tblG_at 932 (by decide +kernel) (by decide +kernel)
theorem mX11_306_7 : zKV RX11 306 7 yX7_tells cX7_tells 3 (some .int) 2 := ⟨⟨_, _, rfl⟩, w930, w931, w932, w70, w953, by decide, by decide, by decide, by decide +kernel⟩
theorem w952 : (Cond.selects "ButlerRemembers$Told" ({ cls := "ButlerRemembers$Master", name := "tells", desc := "(LButlerRemembers$Turn;I)I" } : Jvm.MethodName) ({ cls := "ButlerRemembers$Cousin", name := "tells", desc := "(LButlerRemembers$Turn;I)I" } : Jvm.MethodName)) ∈ tblG := tblG_at 952 (by decide +kernel) (by decide +kernel)
theorem mX11_306_9 : zKU RX11 306 9 RX9 "ButlerRemembers$Master" ⟨"ButlerRemembers$Master", "tells", "(LButlerRemembers$Turn;I)I"⟩ yX1_tells cX1_tells 3 (some .int) 2 := ⟨⟨_, _, rfl⟩, w930, w933, w931, ⟨cX7_tells, 3, (some .int), w953⟩, w952, w936, w73, w937, by decide, by decide, by decide, by decide +kernel⟩
theorem w959 : (Cond.methodLink "ButlerRemembers" (309 : Nat) ({ cls := "ButlerRemembers$Turn", name := "keptCount", desc := "()I" } : Jvm.MethodName)) ∈ tblG := tblG_at 959 (by decide +kernel) (by decide +kernel)
theorem w960 : (Cond.instanceMethod ({ cls := "ButlerRemembers$Turn", name := "keptCount", desc := "()I" } : Jvm.MethodName)) ∈ tblG := tblG_at 960 (by decide +kernel) (by decide +kernel)
theorem w961 : (Cond.selects "ButlerRemembers$Turn" ({ cls := "ButlerRemembers$Turn", name := "keptCount", desc := "()I" } : Jvm.MethodName) ({ cls := "ButlerRemembers$Turn", name := "keptCount", desc := "()I" } : Jvm.MethodName)) ∈ tblG := tblG_at 961 (by decide +kernel) (by decide +kernel)
theorem w962 : (Cond.code ({ cls := "ButlerRemembers$Turn", name := "keptCount", desc := "()I" } : Jvm.MethodName) prog_12_method_4_code (1 : Nat) (Option.some Jvm.ClassFile.FieldType.int)) ∈ tblG := tblG_at 962 (by decide +kernel) (by decide +kernel)
theorem mX11_309 : zKV RX11 309 10 yX10_keptCount cX10_keptCount 1 (some .int) 0 := ⟨⟨_, _, rfl⟩, w959, w960, w961, w78, w962, by decide, by decide, by decide, by decide +kernel⟩
theorem w968 : (Cond.methodLink "ButlerRemembers" (315 : Nat) ({ cls := "ButlerRemembers", name := "isUnder", desc := "(LButlerRemembers$Master;I)Z" } : Jvm.MethodName)) ∈ tblG := tblG_at 968 (by decide +kernel) (by decide +kernel)
theorem w969 : (Cond.static ({ cls := "ButlerRemembers", name := "isUnder", desc := "(LButlerRemembers$Master;I)Z" } : Jvm.MethodName)) ∈ tblG := tblG_at 969 (by decide +kernel) (by decide +kernel)
theorem w970 : (Cond.code ({ cls := "ButlerRemembers", name := "isUnder", desc := "(LButlerRemembers$Master;I)Z" } : Jvm.MethodName) prog_1_method_42_code (2 : Nat) (Option.some Jvm.ClassFile.FieldType.boolean)) ∈ tblG := tblG_at 970 (by decide +kernel) (by decide +kernel)
theorem mX11_315 : zKS RX11 315 yX11_isUnder cX11_isUnder 2 (some .boolean) 2 := ⟨w968, w969, w68, w970, by decide, by decide, by decide, by decide +kernel⟩
theorem w979 : (Cond.methodLink "ButlerRemembers" (325 : Nat) ({ cls := "ButlerRemembers$Tape", name := "become", desc := "(II)V" } : Jvm.MethodName)) ∈ tblG := tblG_at 979 (by decide +kernel) (by decide +kernel)
theorem w980 : (Cond.instanceMethod ({ cls := "ButlerRemembers$Tape", name := "become", desc := "(II)V" } : Jvm.MethodName)) ∈ tblG := tblG_at 980 (by decide +kernel) (by decide +kernel)
theorem w981 : (Cond.selects "ButlerRemembers$Tape" ({ cls := "ButlerRemembers$Tape", name := "become", desc := "(II)V" } : Jvm.MethodName) ({ cls := "ButlerRemembers$Tape", name := "become", desc := "(II)V" } : Jvm.MethodName)) ∈ tblG := tblG_at 981 (by decide +kernel) (by decide +kernel)
theorem w982 : (Cond.code ({ cls := "ButlerRemembers$Tape", name := "become", desc := "(II)V" } : Jvm.MethodName) prog_10_method_2_code (3 : Nat) (Option.none : Option Jvm.ClassFile.FieldType)) ∈ tblG := tblG_at 982 (by decide +kernel) (by decide +kernel)
theorem mX11_325 : zKV RX11 325 8 yX8_become cX8_become 3 none 2 := ⟨⟨_, _, rfl⟩, w979, w980, w981, w79, w982, by decide, by decide, by decide, by decide +kernel⟩
theorem w990 : (Cond.methodLink "ButlerRemembers" (329 : Nat) ({ cls := "ButlerRemembers$Tape", name := "narrowed", desc := "(J)J" } : Jvm.MethodName)) ∈ tblG := tblG_at 990 (by decide +kernel) (by decide +kernel)
theorem w991 : (Cond.instanceMethod ({ cls := "ButlerRemembers$Tape", name := "narrowed", desc := "(J)J" } : Jvm.MethodName)) ∈ tblG := tblG_at 991 (by decide +kernel) (by decide +kernel)
theorem w992 : (Cond.selects "ButlerRemembers$Tape" ({ cls := "ButlerRemembers$Tape", name := "narrowed", desc := "(J)J" } : Jvm.MethodName) ({ cls := "ButlerRemembers$Tape", name := "narrowed", desc := "(J)J" } : Jvm.MethodName)) ∈ tblG := tblG_at 992 (by decide +kernel) (by decide +kernel)
theorem w993 : (Cond.code ({ cls := "ButlerRemembers$Tape", name := "narrowed", desc := "(J)J" } : Jvm.MethodName) prog_10_method_6_code (3 : Nat) (Option.some Jvm.ClassFile.FieldType.long)) ∈ tblG := tblG_at 993 (by decide +kernel) (by decide +kernel)
theorem mX11_329 : zKV RX11 329 8 yX8_narrowed cX8_narrowed 3 (some .long) 1 := ⟨⟨_, _, rfl⟩, w990, w991, w992, w79, w993, by decide, by decide, by decide, by decide +kernel⟩
theorem w1002 : (Cond.methodLink "ButlerRemembers" (333 : Nat) ({ cls := "ButlerRemembers$Tape", name := "hasStretch", desc := "(II)Z" } : Jvm.MethodName)) ∈ tblG := tblG_at 1002 (by decide +kernel) (by decide +kernel)
theorem w1003 : (Cond.instanceMethod ({ cls := "ButlerRemembers$Tape", name := "hasStretch", desc := "(II)Z" } : Jvm.MethodName)) ∈ tblG := tblG_at 1003 (by decide +kernel) (by decide +kernel)
theorem w1004 : (Cond.selects "ButlerRemembers$Tape" ({ cls := "ButlerRemembers$Tape", name := "hasStretch", desc := "(II)Z" } : Jvm.MethodName) ({ cls := "ButlerRemembers$Tape", name := "hasStretch", desc := "(II)Z" } : Jvm.MethodName)) ∈ tblG := tblG_at 1004 (by decide +kernel) (by decide +kernel)
theorem w1005 : (Cond.code ({ cls := "ButlerRemembers$Tape", name := "hasStretch", desc := "(II)Z" } : Jvm.MethodName) prog_10_method_5_code (3 : Nat) (Option.some Jvm.ClassFile.FieldType.boolean)) ∈ tblG := tblG_at 1005 (by decide +kernel) (by decide +kernel)
theorem mX11_333 : zKV RX11 333 8 yX8_hasStretch cX8_hasStretch 3 (some .boolean) 2 := ⟨⟨_, _, rfl⟩, w1002, w1003, w1004, w79, w1005, by decide, by decide, by decide, by decide +kernel⟩
theorem w422 : (Cond.methodLink "ButlerRemembers" (342 : Nat) ({ cls := "ButlerRemembers$Master", name := "firmness", desc := "(IIIII)I" } : Jvm.MethodName)) ∈ tblG := tblG_at 422 (by decide +kernel) (by decide +kernel)
theorem w426 : (Cond.selects "ButlerRemembers$Bishop" ({ cls := "ButlerRemembers$Master", name := "firmness", desc := "(IIIII)I" } : Jvm.MethodName) ({ cls := "ButlerRemembers$Bishop", name := "firmness", desc := "(IIIII)I" } : Jvm.MethodName)) ∈ tblG := tblG_at 426 (by decide +kernel) (by decide +kernel)
theorem w427 : (Cond.instanceMethod ({ cls := "ButlerRemembers$Bishop", name := "firmness", desc := "(IIIII)I" } : Jvm.MethodName)) ∈ tblG := tblG_at 427 (by decide +kernel) (by decide +kernel)
theorem w428 : (Cond.code ({ cls := "ButlerRemembers$Bishop", name := "firmness", desc := "(IIIII)I" } : Jvm.MethodName) prog_2_method_2_code (6 : Nat) (Option.some Jvm.ClassFile.FieldType.int)) ∈ tblG := tblG_at 428 (by decide +kernel) (by decide +kernel)
theorem mX11_342_0 : zKU RX11 342 0 RX0 "ButlerRemembers$Master" ⟨"ButlerRemembers$Master", "firmness", "(IIIII)I"⟩ yX0_firmness cX0_firmness 6 (some .int) 5 := ⟨⟨_, _, rfl⟩, w422, w425, w423, ⟨cX7_firmness, 6, (some .int), w450⟩, w426, w427, w74, w428, by decide, by decide, by decide, by decide +kernel⟩
theorem w433 : (Cond.selects "ButlerRemembers$Cousin" ({ cls := "ButlerRemembers$Master", name := "firmness", desc := "(IIIII)I" } : Jvm.MethodName) ({ cls := "ButlerRemembers$Cousin", name := "firmness", desc := "(IIIII)I" } : Jvm.MethodName)) ∈ tblG := tblG_at 433 (by decide +kernel) (by decide +kernel)
theorem w434 : (Cond.instanceMethod ({ cls := "ButlerRemembers$Cousin", name := "firmness", desc := "(IIIII)I" } : Jvm.MethodName)) ∈ tblG := tblG_at 434 (by decide +kernel) (by decide +kernel)
theorem w435 : (Cond.code ({ cls := "ButlerRemembers$Cousin", name := "firmness", desc := "(IIIII)I" } : Jvm.MethodName) prog_3_method_2_code (6 : Nat) (Option.some Jvm.ClassFile.FieldType.int)) ∈ tblG := tblG_at 435 (by decide +kernel) (by decide +kernel)
theorem mX11_342_1 : zKU RX11 342 1 RX1 "ButlerRemembers$Master" ⟨"ButlerRemembers$Master", "firmness", "(IIIII)I"⟩ yX1_firmness cX1_firmness 6 (some .int) 5 := ⟨⟨_, _, rfl⟩, w422, w425, w423, ⟨cX7_firmness, 6, (some .int), w450⟩, w433, w434, w73, w435, by decide, by decide, by decide, by decide +kernel⟩
theorem w437 : (Cond.selects "ButlerRemembers$Daughter" ({ cls := "ButlerRemembers$Master", name := "firmness", desc := "(IIIII)I" } : Jvm.MethodName) ({ cls := "ButlerRemembers$Daughter", name := "firmness", desc := "(IIIII)I" } : Jvm.MethodName)) ∈ tblG := tblG_at 437 (by decide +kernel) (by decide +kernel)
theorem w438 : (Cond.instanceMethod ({ cls := "ButlerRemembers$Daughter", name := "firmness", desc := "(IIIII)I" } : Jvm.MethodName)) ∈ tblG := tblG_at 438 (by decide +kernel) (by decide +kernel)
theorem w439 : (Cond.code ({ cls := "ButlerRemembers$Daughter", name := "firmness", desc := "(IIIII)I" } : Jvm.MethodName) prog_4_method_2_code (6 : Nat) (Option.some Jvm.ClassFile.FieldType.int)) ∈ tblG := tblG_at 439 (by decide +kernel) (by decide +kernel)
theorem mX11_342_2 : zKU RX11 342 2 RX2 "ButlerRemembers$Master" ⟨"ButlerRemembers$Master", "firmness", "(IIIII)I"⟩ yX2_firmness cX2_firmness 6 (some .int) 5 := ⟨⟨_, _, rfl⟩, w422, w425, w423, ⟨cX7_firmness, 6, (some .int), w450⟩, w437, w438, w75, w439, by decide, by decide, by decide, by decide +kernel⟩
theorem w444 : (Cond.selects "ButlerRemembers$Duchess" ({ cls := "ButlerRemembers$Master", name := "firmness", desc := "(IIIII)I" } : Jvm.MethodName) ({ cls := "ButlerRemembers$Duchess", name := "firmness", desc := "(IIIII)I" } : Jvm.MethodName)) ∈ tblG := tblG_at 444 (by decide +kernel) (by decide +kernel)
theorem w441 : (Cond.instanceMethod ({ cls := "ButlerRemembers$Duchess", name := "firmness", desc := "(IIIII)I" } : Jvm.MethodName)) ∈ tblG := tblG_at 441 (by decide +kernel) (by decide +kernel)
theorem w442 : (Cond.code ({ cls := "ButlerRemembers$Duchess", name := "firmness", desc := "(IIIII)I" } : Jvm.MethodName) prog_5_method_2_code (6 : Nat) (Option.some Jvm.ClassFile.FieldType.int)) ∈ tblG := tblG_at 442 (by decide +kernel) (by decide +kernel)
theorem mX11_342_3 : zKU RX11 342 3 RX3 "ButlerRemembers$Master" ⟨"ButlerRemembers$Master", "firmness", "(IIIII)I"⟩ yX3_firmness cX3_firmness 6 (some .int) 5 := ⟨⟨_, _, rfl⟩, w422, w425, w423, ⟨cX7_firmness, 6, (some .int), w450⟩, w444, w441, w72, w442, by decide, by decide, by decide, by decide +kernel⟩
theorem w445 : (Cond.selects "ButlerRemembers$Heir" ({ cls := "ButlerRemembers$Master", name := "firmness", desc := "(IIIII)I" } : Jvm.MethodName) ({ cls := "ButlerRemembers$Heir", name := "firmness", desc := "(IIIII)I" } : Jvm.MethodName)) ∈ tblG := tblG_at 445 (by decide +kernel) (by decide +kernel)
theorem mX11_342_4 : zKU RX11 342 4 RX4 "ButlerRemembers$Master" ⟨"ButlerRemembers$Master", "firmness", "(IIIII)I"⟩ yX4_firmness cX4_firmness 6 (some .int) 5 := ⟨⟨_, _, rfl⟩, w422, w425, w423, ⟨cX7_firmness, 6, (some .int), w450⟩, w445, w430, w71, w431, by decide, by decide, by decide, by decide +kernel⟩
theorem w424 : (Cond.selects "ButlerRemembers$Master" ({ cls := "ButlerRemembers$Master", name := "firmness", desc := "(IIIII)I" } : Jvm.MethodName) ({ cls := "ButlerRemembers$Master", name := "firmness", desc := "(IIIII)I" } : Jvm.MethodName)) ∈ tblG := tblG_at 424 (by decide +kernel) (by decide +kernel)
theorem mX11_342_7 : zKV RX11 342 7 yX7_firmness cX7_firmness 6 (some .int) 5 := ⟨⟨_, _, rfl⟩, w422, w423, w424, w70, w450, by decide, by decide, by decide, by decide +kernel⟩
theorem w446 : (Cond.selects "ButlerRemembers$Told" ({ cls := "ButlerRemembers$Master", name := "firmness", desc := "(IIIII)I" } : Jvm.MethodName) ({ cls := "ButlerRemembers$Told", name := "firmness", desc := "(IIIII)I" } : Jvm.MethodName)) ∈ tblG := tblG_at 446 (by decide +kernel) (by decide +kernel)
theorem w447 : (Cond.instanceMethod ({ cls := "ButlerRemembers$Told", name := "firmness", desc := "(IIIII)I" } : Jvm.MethodName)) ∈ tblG := tblG_at 447 (by decide +kernel) (by decide +kernel)
theorem w448 : (Cond.code ({ cls := "ButlerRemembers$Told", name := "firmness", desc := "(IIIII)I" } : Jvm.MethodName) prog_11_method_2_code (6 : Nat) (Option.some Jvm.ClassFile.FieldType.int)) ∈ tblG := tblG_at 448 (by decide +kernel) (by decide +kernel)
theorem mX11_342_9 : zKU RX11 342 9 RX9 "ButlerRemembers$Master" ⟨"ButlerRemembers$Master", "firmness", "(IIIII)I"⟩ yX9_firmness cX9_firmness 6 (some .int) 5 := ⟨⟨_, _, rfl⟩, w422, w425, w423, ⟨cX7_firmness, 6, (some .int), w450⟩, w446, w447, w76, w448, by decide, by decide, by decide, by decide +kernel⟩
theorem w378 : (Cond.methodLink "ButlerRemembers" (346 : Nat) ({ cls := "ButlerRemembers", name := "keptInNight", desc := "(IIII)I" } : Jvm.MethodName)) ∈ tblG := tblG_at 378 (by decide +kernel) (by decide +kernel)
theorem w380 : (Cond.instanceMethod ({ cls := "ButlerRemembers", name := "keptInNight", desc := "(IIII)I" } : Jvm.MethodName)) ∈ tblG := tblG_at 380 (by decide +kernel) (by decide +kernel)
theorem w1 : Cond.selects "ButlerRemembers" ⟨"ButlerRemembers", "keptInNight", "(IIII)I"⟩ ⟨"ButlerRemembers", "keptInNight", "(IIII)I"⟩ ∈ tblG := tblG_at 1 (by decide +kernel) (by decide +kernel)
theorem w381 : (Cond.code ({ cls := "ButlerRemembers", name := "keptInNight", desc := "(IIII)I" } : Jvm.MethodName) prog_1_method_47_code (8 : Nat) (Option.some Jvm.ClassFile.FieldType.int)) ∈ tblG := tblG_at 381 (by decide +kernel) (by decide +kernel)
theorem mX11_346 : zKV RX11 346 11 yX11_keptInNight cX11_keptInNight 8 (some .int) 4 := ⟨⟨_, _, rfl⟩, w378, w380, w1, w68, w381, by decide, by decide, by decide, by decide +kernel⟩
theorem w707 : (Cond.methodLink "ButlerRemembers" (349 : Nat) ({ cls := "ButlerRemembers", name := "tellDreamers", desc := "(I)I" } : Jvm.MethodName)) ∈ tblG := tblG_at 707 (by decide +kernel) (by decide +kernel)
theorem w709 : (Cond.instanceMethod ({ cls := "ButlerRemembers", name := "tellDreamers", desc := "(I)I" } : Jvm.MethodName)) ∈ tblG := tblG_at 709 (by decide +kernel) (by decide +kernel)
theorem w20 : Cond.selects "ButlerRemembers" ⟨"ButlerRemembers", "tellDreamers", "(I)I"⟩ ⟨"ButlerRemembers", "tellDreamers", "(I)I"⟩ ∈ tblG := tblG_at 20 (by decide +kernel) (by decide +kernel)
theorem w710 : (Cond.code ({ cls := "ButlerRemembers", name := "tellDreamers", desc := "(I)I" } : Jvm.MethodName) prog_1_method_55_code (5 : Nat) (Option.some Jvm.ClassFile.FieldType.int)) ∈ tblG := tblG_at 710 (by decide +kernel) (by decide +kernel)
theorem mX11_349 : zKV RX11 349 11 yX11_tellDreamers cX11_tellDreamers 5 (some .int) 1 := ⟨⟨_, _, rfl⟩, w707, w709, w20, w68, w710, by decide, by decide, by decide, by decide +kernel⟩
theorem w711 : (Cond.methodLink "ButlerRemembers" (352 : Nat) ({ cls := "ButlerRemembers$Household", name := "takenBy", desc := "(II)I" } : Jvm.MethodName)) ∈ tblG := tblG_at 711 (by decide +kernel) (by decide +kernel)
theorem w712 : (Cond.instanceMethod ({ cls := "ButlerRemembers$Household", name := "takenBy", desc := "(II)I" } : Jvm.MethodName)) ∈ tblG := tblG_at 712 (by decide +kernel) (by decide +kernel)
theorem w713 : (Cond.selects "ButlerRemembers$Household" ({ cls := "ButlerRemembers$Household", name := "takenBy", desc := "(II)I" } : Jvm.MethodName) ({ cls := "ButlerRemembers$Household", name := "takenBy", desc := "(II)I" } : Jvm.MethodName)) ∈ tblG := tblG_at 713 (by decide +kernel) (by decide +kernel)
theorem w714 : (Cond.code ({ cls := "ButlerRemembers$Household", name := "takenBy", desc := "(II)I" } : Jvm.MethodName) prog_8_method_13_code (5 : Nat) (Option.some Jvm.ClassFile.FieldType.int)) ∈ tblG := tblG_at 714 (by decide +kernel) (by decide +kernel)
theorem mX11_352 : zKV RX11 352 6 yX6_takenBy cX6_takenBy 5 (some .int) 2 := ⟨⟨_, _, rfl⟩, w711, w712, w713, w69, w714, by decide, by decide, by decide, by decide +kernel⟩
theorem w725 : (Cond.methodLink "ButlerRemembers" (355 : Nat) ({ cls := "java/lang/Math", name := "max", desc := "(II)I" } : Jvm.MethodName)) ∈ tblG := tblG_at 725 (by decide +kernel) (by decide +kernel)
theorem mX11_355 : zKS RX11 355 yJ9_max_7cf53 cJ9_max_7cf53 2 (some .int) 2 := ⟨w725, w637, w82, w638, by decide, by decide, by decide, by decide +kernel⟩
theorem w1102 : (Cond.methodLink "ButlerRemembersModel" (72 : Nat) ({ cls := "ButlerRemembersModel", name := "move", desc := "([I[I)V" } : Jvm.MethodName)) ∈ tblG := tblG_at 1102 (by decide +kernel) (by decide +kernel)
theorem w1103 : (Cond.static ({ cls := "ButlerRemembersModel", name := "move", desc := "([I[I)V" } : Jvm.MethodName)) ∈ tblG := tblG_at 1103 (by decide +kernel) (by decide +kernel)
theorem w1104 : (Cond.code ({ cls := "ButlerRemembersModel", name := "move", desc := "([I[I)V" } : Jvm.MethodName) prog_14_method_3_code (3 : Nat) (Option.none : Option Jvm.ClassFile.FieldType)) ∈ tblG := tblG_at 1104 (by decide +kernel) (by decide +kernel)
theorem mX12_72 : zKS RX12 72 yX12_move cX12_move 3 none 2 := ⟨w1102, w1103, w80, w1104, by decide, by decide, by decide, by decide +kernel⟩
theorem w1113 : (Cond.methodLink "ButlerRemembersModel" (76 : Nat) ({ cls := "ButlerRemembersModel", name := "isIn", desc := "(III)Z" } : Jvm.MethodName)) ∈ tblG := tblG_at 1113 (by decide +kernel) (by decide +kernel)
theorem w1114 : (Cond.static ({ cls := "ButlerRemembersModel", name := "isIn", desc := "(III)Z" } : Jvm.MethodName)) ∈ tblG := tblG_at 1114 (by decide +kernel) (by decide +kernel)
theorem w1115 : (Cond.code ({ cls := "ButlerRemembersModel", name := "isIn", desc := "(III)Z" } : Jvm.MethodName) prog_14_method_2_code (3 : Nat) (Option.some Jvm.ClassFile.FieldType.boolean)) ∈ tblG := tblG_at 1115 (by decide +kernel) (by decide +kernel)
theorem mX12_76 : zKS RX12 76 yX12_isIn cX12_isIn 3 (some .boolean) 3 := ⟨w1113, w1114, w80, w1115, by decide, by decide, by decide, by decide +kernel⟩
theorem w1120 : (Cond.methodLink "ButlerRemembersModel" (80 : Nat) ({ cls := "ButlerRemembersModel", name := "isMaster", desc := "(I)Z" } : Jvm.MethodName)) ∈ tblG := tblG_at 1120 (by decide +kernel) (by decide +kernel)
theorem w1122 : (Cond.instanceMethod ({ cls := "ButlerRemembersModel", name := "isMaster", desc := "(I)Z" } : Jvm.MethodName)) ∈ tblG := tblG_at 1122 (by decide +kernel) (by decide +kernel)
theorem w27 : Cond.selects "ButlerRemembersModel" ⟨"ButlerRemembersModel", "isMaster", "(I)Z"⟩ ⟨"ButlerRemembersModel", "isMaster", "(I)Z"⟩ ∈ tblG := tblG_at 27 (by decide +kernel) (by decide +kernel)
theorem w1123 : (Cond.code ({ cls := "ButlerRemembersModel", name := "isMaster", desc := "(I)Z" } : Jvm.MethodName) prog_14_method_6_code (2 : Nat) (Option.some Jvm.ClassFile.FieldType.boolean)) ∈ tblG := tblG_at 1123 (by decide +kernel) (by decide +kernel)
theorem mX12_80 : zKV RX12 80 12 yX12_isMaster cX12_isMaster 2 (some .boolean) 1 := ⟨⟨_, _, rfl⟩, w1120, w1122, w27, w80, w1123, by decide, by decide, by decide, by decide +kernel⟩
theorem w1124 : (Cond.methodLink "ButlerRemembersModel" (84 : Nat) ({ cls := "ButlerRemembersModel", name := "blank", desc := "(I)I" } : Jvm.MethodName)) ∈ tblG := tblG_at 1124 (by decide +kernel) (by decide +kernel)
theorem w1126 : (Cond.instanceMethod ({ cls := "ButlerRemembersModel", name := "blank", desc := "(I)I" } : Jvm.MethodName)) ∈ tblG := tblG_at 1126 (by decide +kernel) (by decide +kernel)
theorem w28 : Cond.selects "ButlerRemembersModel" ⟨"ButlerRemembersModel", "blank", "(I)I"⟩ ⟨"ButlerRemembersModel", "blank", "(I)I"⟩ ∈ tblG := tblG_at 28 (by decide +kernel) (by decide +kernel)
theorem w1127 : (Cond.code ({ cls := "ButlerRemembersModel", name := "blank", desc := "(I)I" } : Jvm.MethodName) prog_14_method_42_code (4 : Nat) (Option.some Jvm.ClassFile.FieldType.int)) ∈ tblG := tblG_at 1127 (by decide +kernel) (by decide +kernel)
theorem mX12_84 : zKV RX12 84 12 yX12_blank cX12_blank 4 (some .int) 1 := ⟨⟨_, _, rfl⟩, w1124, w1126, w28, w80, w1127, by decide, by decide, by decide, by decide +kernel⟩
theorem w1196 : (Cond.methodLink "ButlerRemembersModel" (88 : Nat) ({ cls := "ButlerRemembersModel", name := "keptBy", desc := "(II)I" } : Jvm.MethodName)) ∈ tblG := tblG_at 1196 (by decide +kernel) (by decide +kernel)
theorem w1198 : (Cond.instanceMethod ({ cls := "ButlerRemembersModel", name := "keptBy", desc := "(II)I" } : Jvm.MethodName)) ∈ tblG := tblG_at 1198 (by decide +kernel) (by decide +kernel)
theorem w46 : Cond.selects "ButlerRemembersModel" ⟨"ButlerRemembersModel", "keptBy", "(II)I"⟩ ⟨"ButlerRemembersModel", "keptBy", "(II)I"⟩ ∈ tblG := tblG_at 46 (by decide +kernel) (by decide +kernel)
theorem w1199 : (Cond.code ({ cls := "ButlerRemembersModel", name := "keptBy", desc := "(II)I" } : Jvm.MethodName) prog_14_method_41_code (4 : Nat) (Option.some Jvm.ClassFile.FieldType.int)) ∈ tblG := tblG_at 1199 (by decide +kernel) (by decide +kernel)
theorem mX12_88 : zKV RX12 88 12 yX12_keptBy cX12_keptBy 4 (some .int) 2 := ⟨⟨_, _, rfl⟩, w1196, w1198, w46, w80, w1199, by decide, by decide, by decide, by decide +kernel⟩
theorem w1204 : (Cond.methodLink "ButlerRemembersModel" (92 : Nat) ({ cls := "ButlerRemembersModel", name := "isFact", desc := "(I)Z" } : Jvm.MethodName)) ∈ tblG := tblG_at 1204 (by decide +kernel) (by decide +kernel)
theorem w1205 : (Cond.static ({ cls := "ButlerRemembersModel", name := "isFact", desc := "(I)Z" } : Jvm.MethodName)) ∈ tblG := tblG_at 1205 (by decide +kernel) (by decide +kernel)
theorem w1206 : (Cond.code ({ cls := "ButlerRemembersModel", name := "isFact", desc := "(I)Z" } : Jvm.MethodName) prog_14_method_7_code (1 : Nat) (Option.some Jvm.ClassFile.FieldType.boolean)) ∈ tblG := tblG_at 1206 (by decide +kernel) (by decide +kernel)
theorem mX12_92 : zKS RX12 92 yX12_isFact cX12_isFact 1 (some .boolean) 1 := ⟨w1204, w1205, w80, w1206, by decide, by decide, by decide, by decide +kernel⟩
theorem w1140 : (Cond.methodLink "ButlerRemembersModel" (95 : Nat) ({ cls := "ButlerRemembersModel", name := "gripOn", desc := "(III)I" } : Jvm.MethodName)) ∈ tblG := tblG_at 1140 (by decide +kernel) (by decide +kernel)
theorem w1142 : (Cond.instanceMethod ({ cls := "ButlerRemembersModel", name := "gripOn", desc := "(III)I" } : Jvm.MethodName)) ∈ tblG := tblG_at 1142 (by decide +kernel) (by decide +kernel)
theorem w32 : Cond.selects "ButlerRemembersModel" ⟨"ButlerRemembersModel", "gripOn", "(III)I"⟩ ⟨"ButlerRemembersModel", "gripOn", "(III)I"⟩ ∈ tblG := tblG_at 32 (by decide +kernel) (by decide +kernel)
theorem w1143 : (Cond.code ({ cls := "ButlerRemembersModel", name := "gripOn", desc := "(III)I" } : Jvm.MethodName) prog_14_method_37_code (6 : Nat) (Option.some Jvm.ClassFile.FieldType.int)) ∈ tblG := tblG_at 1143 (by decide +kernel) (by decide +kernel)
theorem mX12_95 : zKV RX12 95 12 yX12_gripOn cX12_gripOn 6 (some .int) 3 := ⟨⟨_, _, rfl⟩, w1140, w1142, w32, w80, w1143, by decide, by decide, by decide, by decide +kernel⟩
theorem w1128 : (Cond.methodLink "ButlerRemembersModel" (99 : Nat) ({ cls := "ButlerRemembersModel", name := "mindOf", desc := "(I)I" } : Jvm.MethodName)) ∈ tblG := tblG_at 1128 (by decide +kernel) (by decide +kernel)
theorem w1130 : (Cond.instanceMethod ({ cls := "ButlerRemembersModel", name := "mindOf", desc := "(I)I" } : Jvm.MethodName)) ∈ tblG := tblG_at 1130 (by decide +kernel) (by decide +kernel)
theorem w29 : Cond.selects "ButlerRemembersModel" ⟨"ButlerRemembersModel", "mindOf", "(I)I"⟩ ⟨"ButlerRemembersModel", "mindOf", "(I)I"⟩ ∈ tblG := tblG_at 29 (by decide +kernel) (by decide +kernel)
theorem w1131 : (Cond.code ({ cls := "ButlerRemembersModel", name := "mindOf", desc := "(I)I" } : Jvm.MethodName) prog_14_method_11_code (2 : Nat) (Option.some Jvm.ClassFile.FieldType.int)) ∈ tblG := tblG_at 1131 (by decide +kernel) (by decide +kernel)
theorem mX12_99 : zKV RX12 99 12 yX12_mindOf cX12_mindOf 2 (some .int) 1 := ⟨⟨_, _, rfl⟩, w1128, w1130, w29, w80, w1131, by decide, by decide, by decide, by decide +kernel⟩
theorem w1215 : (Cond.methodLink "ButlerRemembersModel" (102 : Nat) ({ cls := "ButlerRemembersModel", name := "isSet", desc := "(I)Z" } : Jvm.MethodName)) ∈ tblG := tblG_at 1215 (by decide +kernel) (by decide +kernel)
theorem w1216 : (Cond.static ({ cls := "ButlerRemembersModel", name := "isSet", desc := "(I)Z" } : Jvm.MethodName)) ∈ tblG := tblG_at 1216 (by decide +kernel) (by decide +kernel)
theorem w1217 : (Cond.code ({ cls := "ButlerRemembersModel", name := "isSet", desc := "(I)Z" } : Jvm.MethodName) prog_14_method_8_code (1 : Nat) (Option.some Jvm.ClassFile.FieldType.boolean)) ∈ tblG := tblG_at 1217 (by decide +kernel) (by decide +kernel)
theorem mX12_102 : zKS RX12 102 yX12_isSet cX12_isSet 1 (some .boolean) 1 := ⟨w1215, w1216, w80, w1217, by decide, by decide, by decide, by decide +kernel⟩
theorem w1230 : (Cond.methodLink "ButlerRemembersModel" (105 : Nat) ({ cls := "ButlerRemembersModel", name := "isFootman", desc := "(I)Z" } : Jvm.MethodName)) ∈ tblG := tblG_at 1230 (by decide +kernel) (by decide +kernel)
theorem w1232 : (Cond.instanceMethod ({ cls := "ButlerRemembersModel", name := "isFootman", desc := "(I)Z" } : Jvm.MethodName)) ∈ tblG := tblG_at 1232 (by decide +kernel) (by decide +kernel)
theorem w47 : Cond.selects "ButlerRemembersModel" ⟨"ButlerRemembersModel", "isFootman", "(I)Z"⟩ ⟨"ButlerRemembersModel", "isFootman", "(I)Z"⟩ ∈ tblG := tblG_at 47 (by decide +kernel) (by decide +kernel)
theorem w1233 : (Cond.code ({ cls := "ButlerRemembersModel", name := "isFootman", desc := "(I)Z" } : Jvm.MethodName) prog_14_method_20_code (2 : Nat) (Option.some Jvm.ClassFile.FieldType.boolean)) ∈ tblG := tblG_at 1233 (by decide +kernel) (by decide +kernel)
theorem mX12_105 : zKV RX12 105 12 yX12_isFootman cX12_isFootman 2 (some .boolean) 1 := ⟨⟨_, _, rfl⟩, w1230, w1232, w47, w80, w1233, by decide, by decide, by decide, by decide +kernel⟩
theorem w1148 : (Cond.methodLink "ButlerRemembersModel" (108 : Nat) ({ cls := "ButlerRemembersModel", name := "kind", desc := "(I)I" } : Jvm.MethodName)) ∈ tblG := tblG_at 1148 (by decide +kernel) (by decide +kernel)
theorem w1150 : (Cond.instanceMethod ({ cls := "ButlerRemembersModel", name := "kind", desc := "(I)I" } : Jvm.MethodName)) ∈ tblG := tblG_at 1150 (by decide +kernel) (by decide +kernel)
theorem w34 : Cond.selects "ButlerRemembersModel" ⟨"ButlerRemembersModel", "kind", "(I)I"⟩ ⟨"ButlerRemembersModel", "kind", "(I)I"⟩ ∈ tblG := tblG_at 34 (by decide +kernel) (by decide +kernel)
theorem w1151 : (Cond.code ({ cls := "ButlerRemembersModel", name := "kind", desc := "(I)I" } : Jvm.MethodName) prog_14_method_9_code (2 : Nat) (Option.some Jvm.ClassFile.FieldType.int)) ∈ tblG := tblG_at 1151 (by decide +kernel) (by decide +kernel)
theorem mX12_108 : zKV RX12 108 12 yX12_kind cX12_kind 2 (some .int) 1 := ⟨⟨_, _, rfl⟩, w1148, w1150, w34, w80, w1151, by decide, by decide, by decide, by decide +kernel⟩
theorem w1164 : (Cond.methodLink "ButlerRemembersModel" (124 : Nat) ({ cls := "ButlerRemembersModel", name := "isAt", desc := "(I)Z" } : Jvm.MethodName)) ∈ tblG := tblG_at 1164 (by decide +kernel) (by decide +kernel)
theorem w1166 : (Cond.instanceMethod ({ cls := "ButlerRemembersModel", name := "isAt", desc := "(I)Z" } : Jvm.MethodName)) ∈ tblG := tblG_at 1166 (by decide +kernel) (by decide +kernel)
theorem w38 : Cond.selects "ButlerRemembersModel" ⟨"ButlerRemembersModel", "isAt", "(I)Z"⟩ ⟨"ButlerRemembersModel", "isAt", "(I)Z"⟩ ∈ tblG := tblG_at 38 (by decide +kernel) (by decide +kernel)
theorem w1167 : (Cond.code ({ cls := "ButlerRemembersModel", name := "isAt", desc := "(I)Z" } : Jvm.MethodName) prog_14_method_25_code (2 : Nat) (Option.some Jvm.ClassFile.FieldType.boolean)) ∈ tblG := tblG_at 1167 (by decide +kernel) (by decide +kernel)
theorem mX12_124 : zKV RX12 124 12 yX12_isAt cX12_isAt 2 (some .boolean) 1 := ⟨⟨_, _, rfl⟩, w1164, w1166, w38, w80, w1167, by decide, by decide, by decide, by decide +kernel⟩
theorem w1176 : (Cond.methodLink "ButlerRemembersModel" (127 : Nat) ({ cls := "ButlerRemembersModel", name := "isDigit", desc := "()Z" } : Jvm.MethodName)) ∈ tblG := tblG_at 1176 (by decide +kernel) (by decide +kernel)
theorem w1178 : (Cond.instanceMethod ({ cls := "ButlerRemembersModel", name := "isDigit", desc := "()Z" } : Jvm.MethodName)) ∈ tblG := tblG_at 1178 (by decide +kernel) (by decide +kernel)
theorem w41 : Cond.selects "ButlerRemembersModel" ⟨"ButlerRemembersModel", "isDigit", "()Z"⟩ ⟨"ButlerRemembersModel", "isDigit", "()Z"⟩ ∈ tblG := tblG_at 41 (by decide +kernel) (by decide +kernel)
theorem w1179 : (Cond.code ({ cls := "ButlerRemembersModel", name := "isDigit", desc := "()Z" } : Jvm.MethodName) prog_14_method_27_code (1 : Nat) (Option.some Jvm.ClassFile.FieldType.boolean)) ∈ tblG := tblG_at 1179 (by decide +kernel) (by decide +kernel)
theorem mX12_127 : zKV RX12 127 12 yX12_isDigit cX12_isDigit 1 (some .boolean) 0 := ⟨⟨_, _, rfl⟩, w1176, w1178, w41, w80, w1179, by decide, by decide, by decide, by decide +kernel⟩
theorem w1168 : (Cond.methodLink "ButlerRemembersModel" (131 : Nat) ({ cls := "ButlerRemembersModel", name := "takes", desc := "(I)V" } : Jvm.MethodName)) ∈ tblG := tblG_at 1168 (by decide +kernel) (by decide +kernel)
theorem w1170 : (Cond.instanceMethod ({ cls := "ButlerRemembersModel", name := "takes", desc := "(I)V" } : Jvm.MethodName)) ∈ tblG := tblG_at 1170 (by decide +kernel) (by decide +kernel)
theorem w39 : Cond.selects "ButlerRemembersModel" ⟨"ButlerRemembersModel", "takes", "(I)V"⟩ ⟨"ButlerRemembersModel", "takes", "(I)V"⟩ ∈ tblG := tblG_at 39 (by decide +kernel) (by decide +kernel)
theorem w1171 : (Cond.code ({ cls := "ButlerRemembersModel", name := "takes", desc := "(I)V" } : Jvm.MethodName) prog_14_method_26_code (2 : Nat) (Option.none : Option Jvm.ClassFile.FieldType)) ∈ tblG := tblG_at 1171 (by decide +kernel) (by decide +kernel)
theorem mX12_131 : zKV RX12 131 12 yX12_takes cX12_takes 2 none 1 := ⟨⟨_, _, rfl⟩, w1168, w1170, w39, w80, w1171, by decide, by decide, by decide, by decide +kernel⟩
theorem w1172 : (Cond.methodLink "ButlerRemembersModel" (135 : Nat) ({ cls := "ButlerRemembersModel", name := "number", desc := "()I" } : Jvm.MethodName)) ∈ tblG := tblG_at 1172 (by decide +kernel) (by decide +kernel)
theorem w1174 : (Cond.instanceMethod ({ cls := "ButlerRemembersModel", name := "number", desc := "()I" } : Jvm.MethodName)) ∈ tblG := tblG_at 1174 (by decide +kernel) (by decide +kernel)
theorem w40 : Cond.selects "ButlerRemembersModel" ⟨"ButlerRemembersModel", "number", "()I"⟩ ⟨"ButlerRemembersModel", "number", "()I"⟩ ∈ tblG := tblG_at 40 (by decide +kernel) (by decide +kernel)
theorem w1175 : (Cond.code ({ cls := "ButlerRemembersModel", name := "number", desc := "()I" } : Jvm.MethodName) prog_14_method_28_code (2 : Nat) (Option.some Jvm.ClassFile.FieldType.int)) ∈ tblG := tblG_at 1175 (by decide +kernel) (by decide +kernel)
theorem mX12_135 : zKV RX12 135 12 yX12_number cX12_number 2 (some .int) 0 := ⟨⟨_, _, rfl⟩, w1172, w1174, w40, w80, w1175, by decide, by decide, by decide, by decide +kernel⟩
theorem w1188 : (Cond.methodLink "ButlerRemembersModel" (142 : Nat) ({ cls := "ButlerRemembersModel", name := "factor", desc := "()Z" } : Jvm.MethodName)) ∈ tblG := tblG_at 1188 (by decide +kernel) (by decide +kernel)
theorem w1190 : (Cond.instanceMethod ({ cls := "ButlerRemembersModel", name := "factor", desc := "()Z" } : Jvm.MethodName)) ∈ tblG := tblG_at 1190 (by decide +kernel) (by decide +kernel)
theorem w44 : Cond.selects "ButlerRemembersModel" ⟨"ButlerRemembersModel", "factor", "()Z"⟩ ⟨"ButlerRemembersModel", "factor", "()Z"⟩ ∈ tblG := tblG_at 44 (by decide +kernel) (by decide +kernel)
theorem w1191 : (Cond.code ({ cls := "ButlerRemembersModel", name := "factor", desc := "()Z" } : Jvm.MethodName) prog_14_method_30_code (2 : Nat) (Option.some Jvm.ClassFile.FieldType.boolean)) ∈ tblG := tblG_at 1191 (by decide +kernel) (by decide +kernel)
theorem mX12_142 : zKV RX12 142 12 yX12_factor cX12_factor 2 (some .boolean) 0 := ⟨⟨_, _, rfl⟩, w1188, w1190, w44, w80, w1191, by decide, by decide, by decide, by decide +kernel⟩
theorem w1180 : (Cond.methodLink "ButlerRemembersModel" (145 : Nat) ({ cls := "ButlerRemembersModel", name := "any", desc := "()Z" } : Jvm.MethodName)) ∈ tblG := tblG_at 1180 (by decide +kernel) (by decide +kernel)
theorem w1182 : (Cond.instanceMethod ({ cls := "ButlerRemembersModel", name := "any", desc := "()Z" } : Jvm.MethodName)) ∈ tblG := tblG_at 1182 (by decide +kernel) (by decide +kernel)
theorem w42 : Cond.selects "ButlerRemembersModel" ⟨"ButlerRemembersModel", "any", "()Z"⟩ ⟨"ButlerRemembersModel", "any", "()Z"⟩ ∈ tblG := tblG_at 42 (by decide +kernel) (by decide +kernel)
theorem w1183 : (Cond.code ({ cls := "ButlerRemembersModel", name := "any", desc := "()Z" } : Jvm.MethodName) prog_14_method_32_code (3 : Nat) (Option.some Jvm.ClassFile.FieldType.boolean)) ∈ tblG := tblG_at 1183 (by decide +kernel) (by decide +kernel)
theorem mX12_145 : zKV RX12 145 12 yX12_any cX12_any 3 (some .boolean) 0 := ⟨⟨_, _, rfl⟩, w1180, w1182, w42, w80, w1183, by decide, by decide, by decide, by decide +kernel⟩
theorem w1192 : (Cond.methodLink "ButlerRemembersModel" (148 : Nat) ({ cls := "ButlerRemembersModel", name := "test", desc := "()Z" } : Jvm.MethodName)) ∈ tblG := tblG_at 1192 (by decide +kernel) (by decide +kernel)
theorem w1194 : (Cond.instanceMethod ({ cls := "ButlerRemembersModel", name := "test", desc := "()Z" } : Jvm.MethodName)) ∈ tblG := tblG_at 1194 (by decide +kernel) (by decide +kernel)
theorem w45 : Cond.selects "ButlerRemembersModel" ⟨"ButlerRemembersModel", "test", "()Z"⟩ ⟨"ButlerRemembersModel", "test", "()Z"⟩ ∈ tblG := tblG_at 45 (by decide +kernel) (by decide +kernel)
theorem w1195 : (Cond.code ({ cls := "ButlerRemembersModel", name := "test", desc := "()Z" } : Jvm.MethodName) prog_14_method_29_code (4 : Nat) (Option.some Jvm.ClassFile.FieldType.boolean)) ∈ tblG := tblG_at 1195 (by decide +kernel) (by decide +kernel)
theorem mX12_148 : zKV RX12 148 12 yX12_test cX12_test 4 (some .boolean) 0 := ⟨⟨_, _, rfl⟩, w1192, w1194, w45, w80, w1195, by decide, by decide, by decide, by decide +kernel⟩
theorem w1184 : (Cond.methodLink "ButlerRemembersModel" (151 : Nat) ({ cls := "ButlerRemembersModel", name := "both", desc := "()Z" } : Jvm.MethodName)) ∈ tblG := tblG_at 1184 (by decide +kernel) (by decide +kernel)
theorem w1186 : (Cond.instanceMethod ({ cls := "ButlerRemembersModel", name := "both", desc := "()Z" } : Jvm.MethodName)) ∈ tblG := tblG_at 1186 (by decide +kernel) (by decide +kernel)
theorem w43 : Cond.selects "ButlerRemembersModel" ⟨"ButlerRemembersModel", "both", "()Z"⟩ ⟨"ButlerRemembersModel", "both", "()Z"⟩ ∈ tblG := tblG_at 43 (by decide +kernel) (by decide +kernel)
theorem w1187 : (Cond.code ({ cls := "ButlerRemembersModel", name := "both", desc := "()Z" } : Jvm.MethodName) prog_14_method_31_code (3 : Nat) (Option.some Jvm.ClassFile.FieldType.boolean)) ∈ tblG := tblG_at 1187 (by decide +kernel) (by decide +kernel)
theorem mX12_151 : zKV RX12 151 12 yX12_both cX12_both 3 (some .boolean) 0 := ⟨⟨_, _, rfl⟩, w1184, w1186, w43, w80, w1187, by decide, by decide, by decide, by decide +kernel⟩
theorem w1160 : (Cond.methodLink "ButlerRemembersModel" (160 : Nat) ({ cls := "ButlerRemembersModel", name := "clause", desc := "()V" } : Jvm.MethodName)) ∈ tblG := tblG_at 1160 (by decide +kernel) (by decide +kernel)
theorem w1162 : (Cond.instanceMethod ({ cls := "ButlerRemembersModel", name := "clause", desc := "()V" } : Jvm.MethodName)) ∈ tblG := tblG_at 1162 (by decide +kernel) (by decide +kernel)
theorem w37 : Cond.selects "ButlerRemembersModel" ⟨"ButlerRemembersModel", "clause", "()V"⟩ ⟨"ButlerRemembersModel", "clause", "()V"⟩ ∈ tblG := tblG_at 37 (by decide +kernel) (by decide +kernel)
theorem w1163 : (Cond.code ({ cls := "ButlerRemembersModel", name := "clause", desc := "()V" } : Jvm.MethodName) prog_14_method_33_code (4 : Nat) (Option.none : Option Jvm.ClassFile.FieldType)) ∈ tblG := tblG_at 1163 (by decide +kernel) (by decide +kernel)
theorem mX12_160 : zKV RX12 160 12 yX12_clause cX12_clause 4 none 0 := ⟨⟨_, _, rfl⟩, w1160, w1162, w37, w80, w1163, by decide, by decide, by decide, by decide +kernel⟩
theorem w1152 : (Cond.methodLink "ButlerRemembersModel" (163 : Nat) ({ cls := "ButlerRemembersModel", name := "v", desc := "(I)I" } : Jvm.MethodName)) ∈ tblG := tblG_at 1152 (by decide +kernel) (by decide +kernel)
theorem w1154 : (Cond.instanceMethod ({ cls := "ButlerRemembersModel", name := "v", desc := "(I)I" } : Jvm.MethodName)) ∈ tblG := tblG_at 1154 (by decide +kernel) (by decide +kernel)
theorem w35 : Cond.selects "ButlerRemembersModel" ⟨"ButlerRemembersModel", "v", "(I)I"⟩ ⟨"ButlerRemembersModel", "v", "(I)I"⟩ ∈ tblG := tblG_at 35 (by decide +kernel) (by decide +kernel)
theorem w1155 : (Cond.code ({ cls := "ButlerRemembersModel", name := "v", desc := "(I)I" } : Jvm.MethodName) prog_14_method_10_code (2 : Nat) (Option.some Jvm.ClassFile.FieldType.int)) ∈ tblG := tblG_at 1155 (by decide +kernel) (by decide +kernel)
theorem mX12_163 : zKV RX12 163 12 yX12_v cX12_v 2 (some .int) 1 := ⟨⟨_, _, rfl⟩, w1152, w1154, w35, w80, w1155, by decide, by decide, by decide, by decide +kernel⟩
theorem w1156 : (Cond.methodLink "ButlerRemembersModel" (166 : Nat) ({ cls := "ButlerRemembersModel", name := "readAll", desc := "()Z" } : Jvm.MethodName)) ∈ tblG := tblG_at 1156 (by decide +kernel) (by decide +kernel)
theorem w1158 : (Cond.instanceMethod ({ cls := "ButlerRemembersModel", name := "readAll", desc := "()Z" } : Jvm.MethodName)) ∈ tblG := tblG_at 1158 (by decide +kernel) (by decide +kernel)
theorem w36 : Cond.selects "ButlerRemembersModel" ⟨"ButlerRemembersModel", "readAll", "()Z"⟩ ⟨"ButlerRemembersModel", "readAll", "()Z"⟩ ∈ tblG := tblG_at 36 (by decide +kernel) (by decide +kernel)
theorem w1159 : (Cond.code ({ cls := "ButlerRemembersModel", name := "readAll", desc := "()Z" } : Jvm.MethodName) prog_14_method_34_code (2 : Nat) (Option.some Jvm.ClassFile.FieldType.boolean)) ∈ tblG := tblG_at 1159 (by decide +kernel) (by decide +kernel)
theorem mX12_166 : zKV RX12 166 12 yX12_readAll cX12_readAll 2 (some .boolean) 0 := ⟨⟨_, _, rfl⟩, w1156, w1158, w36, w80, w1159, by decide, by decide, by decide, by decide +kernel⟩
theorem w1144 : (Cond.methodLink "ButlerRemembersModel" (172 : Nat) ({ cls := "ButlerRemembersModel", name := "readFor", desc := "(III)V" } : Jvm.MethodName)) ∈ tblG := tblG_at 1144 (by decide +kernel) (by decide +kernel)
theorem w1146 : (Cond.instanceMethod ({ cls := "ButlerRemembersModel", name := "readFor", desc := "(III)V" } : Jvm.MethodName)) ∈ tblG := tblG_at 1146 (by decide +kernel) (by decide +kernel)
theorem w33 : Cond.selects "ButlerRemembersModel" ⟨"ButlerRemembersModel", "readFor", "(III)V"⟩ ⟨"ButlerRemembersModel", "readFor", "(III)V"⟩ ∈ tblG := tblG_at 33 (by decide +kernel) (by decide +kernel)
theorem w1147 : (Cond.code ({ cls := "ButlerRemembersModel", name := "readFor", desc := "(III)V" } : Jvm.MethodName) prog_14_method_35_code (6 : Nat) (Option.none : Option Jvm.ClassFile.FieldType)) ∈ tblG := tblG_at 1147 (by decide +kernel) (by decide +kernel)
theorem mX12_172 : zKV RX12 172 12 yX12_readFor cX12_readFor 6 none 3 := ⟨⟨_, _, rfl⟩, w1144, w1146, w33, w80, w1147, by decide, by decide, by decide, by decide +kernel⟩
theorem w1136 : (Cond.methodLink "ButlerRemembersModel" (176 : Nat) ({ cls := "ButlerRemembersModel", name := "keeps", desc := "(III)Z" } : Jvm.MethodName)) ∈ tblG := tblG_at 1136 (by decide +kernel) (by decide +kernel)
theorem w1138 : (Cond.instanceMethod ({ cls := "ButlerRemembersModel", name := "keeps", desc := "(III)Z" } : Jvm.MethodName)) ∈ tblG := tblG_at 1138 (by decide +kernel) (by decide +kernel)
theorem w31 : Cond.selects "ButlerRemembersModel" ⟨"ButlerRemembersModel", "keeps", "(III)Z"⟩ ⟨"ButlerRemembersModel", "keeps", "(III)Z"⟩ ∈ tblG := tblG_at 31 (by decide +kernel) (by decide +kernel)
theorem w1139 : (Cond.code ({ cls := "ButlerRemembersModel", name := "keeps", desc := "(III)Z" } : Jvm.MethodName) prog_14_method_38_code (4 : Nat) (Option.some Jvm.ClassFile.FieldType.boolean)) ∈ tblG := tblG_at 1139 (by decide +kernel) (by decide +kernel)
theorem mX12_176 : zKV RX12 176 12 yX12_keeps cX12_keeps 4 (some .boolean) 3 := ⟨⟨_, _, rfl⟩, w1136, w1138, w31, w80, w1139, by decide, by decide, by decide, by decide +kernel⟩
theorem w1132 : (Cond.methodLink "ButlerRemembersModel" (179 : Nat) ({ cls := "ButlerRemembersModel", name := "stays", desc := "(III)I" } : Jvm.MethodName)) ∈ tblG := tblG_at 1132 (by decide +kernel) (by decide +kernel)
theorem w1134 : (Cond.instanceMethod ({ cls := "ButlerRemembersModel", name := "stays", desc := "(III)I" } : Jvm.MethodName)) ∈ tblG := tblG_at 1134 (by decide +kernel) (by decide +kernel)
theorem w30 : Cond.selects "ButlerRemembersModel" ⟨"ButlerRemembersModel", "stays", "(III)I"⟩ ⟨"ButlerRemembersModel", "stays", "(III)I"⟩ ∈ tblG := tblG_at 30 (by decide +kernel) (by decide +kernel)
theorem w1135 : (Cond.code ({ cls := "ButlerRemembersModel", name := "stays", desc := "(III)I" } : Jvm.MethodName) prog_14_method_39_code (6 : Nat) (Option.some Jvm.ClassFile.FieldType.int)) ∈ tblG := tblG_at 1135 (by decide +kernel) (by decide +kernel)
theorem mX12_179 : zKV RX12 179 12 yX12_stays cX12_stays 6 (some .int) 3 := ⟨⟨_, _, rfl⟩, w1132, w1134, w30, w80, w1135, by decide, by decide, by decide, by decide +kernel⟩
theorem w1274 : (Cond.methodLink "ButlerRemembersModel" (182 : Nat) ({ cls := "ButlerRemembersModel", name := "takes", desc := "(II)I" } : Jvm.MethodName)) ∈ tblG := tblG_at 1274 (by decide +kernel) (by decide +kernel)
theorem w1276 : (Cond.instanceMethod ({ cls := "ButlerRemembersModel", name := "takes", desc := "(II)I" } : Jvm.MethodName)) ∈ tblG := tblG_at 1276 (by decide +kernel) (by decide +kernel)
theorem w53 : Cond.selects "ButlerRemembersModel" ⟨"ButlerRemembersModel", "takes", "(II)I"⟩ ⟨"ButlerRemembersModel", "takes", "(II)I"⟩ ∈ tblG := tblG_at 53 (by decide +kernel) (by decide +kernel)
theorem w1277 : (Cond.code ({ cls := "ButlerRemembersModel", name := "takes", desc := "(II)I" } : Jvm.MethodName) prog_14_method_43_code (3 : Nat) (Option.some Jvm.ClassFile.FieldType.int)) ∈ tblG := tblG_at 1277 (by decide +kernel) (by decide +kernel)
theorem mX12_182 : zKV RX12 182 12 yX12_takes_ cX12_takes_ 3 (some .int) 2 := ⟨⟨_, _, rfl⟩, w1274, w1276, w53, w80, w1277, by decide, by decide, by decide, by decide +kernel⟩
theorem w1286 : (Cond.methodLink "ButlerRemembersModel" (184 : Nat) ({ cls := "ButlerRemembersModel", name := "many", desc := "(I)I" } : Jvm.MethodName)) ∈ tblG := tblG_at 1286 (by decide +kernel) (by decide +kernel)
theorem w1287 : (Cond.static ({ cls := "ButlerRemembersModel", name := "many", desc := "(I)I" } : Jvm.MethodName)) ∈ tblG := tblG_at 1287 (by decide +kernel) (by decide +kernel)
theorem w1288 : (Cond.code ({ cls := "ButlerRemembersModel", name := "many", desc := "(I)I" } : Jvm.MethodName) prog_14_method_12_code (3 : Nat) (Option.some Jvm.ClassFile.FieldType.int)) ∈ tblG := tblG_at 1288 (by decide +kernel) (by decide +kernel)
theorem mX12_184 : zKS RX12 184 yX12_many cX12_many 3 (some .int) 1 := ⟨w1286, w1287, w80, w1288, by decide, by decide, by decide, by decide +kernel⟩
theorem w1282 : (Cond.methodLink "ButlerRemembersModel" (187 : Nat) ({ cls := "ButlerRemembersModel", name := "tellFor", desc := "(I)I" } : Jvm.MethodName)) ∈ tblG := tblG_at 1282 (by decide +kernel) (by decide +kernel)
theorem w1284 : (Cond.instanceMethod ({ cls := "ButlerRemembersModel", name := "tellFor", desc := "(I)I" } : Jvm.MethodName)) ∈ tblG := tblG_at 1284 (by decide +kernel) (by decide +kernel)
theorem w55 : Cond.selects "ButlerRemembersModel" ⟨"ButlerRemembersModel", "tellFor", "(I)I"⟩ ⟨"ButlerRemembersModel", "tellFor", "(I)I"⟩ ∈ tblG := tblG_at 55 (by decide +kernel) (by decide +kernel)
theorem w1285 : (Cond.code ({ cls := "ButlerRemembersModel", name := "tellFor", desc := "(I)I" } : Jvm.MethodName) prog_14_method_46_code (5 : Nat) (Option.some Jvm.ClassFile.FieldType.int)) ∈ tblG := tblG_at 1285 (by decide +kernel) (by decide +kernel)
theorem mX12_187 : zKV RX12 187 12 yX12_tellFor cX12_tellFor 5 (some .int) 1 := ⟨⟨_, _, rfl⟩, w1282, w1284, w55, w80, w1285, by decide, by decide, by decide, by decide +kernel⟩
theorem w1293 : (Cond.methodLink "ButlerRemembersModel" (190 : Nat) ({ cls := "java/lang/Math", name := "max", desc := "(II)I" } : Jvm.MethodName)) ∈ tblG := tblG_at 1293 (by decide +kernel) (by decide +kernel)
theorem mX12_190 : zKS RX12 190 yJ9_max_7cf53 cJ9_max_7cf53 2 (some .int) 2 := ⟨w1293, w637, w82, w638, by decide, by decide, by decide, by decide +kernel⟩
theorem w1294 : (Cond.methodLink "ButlerRemembersModel" (195 : Nat) ({ cls := "ButlerRemembersModel", name := "night", desc := "()V" } : Jvm.MethodName)) ∈ tblG := tblG_at 1294 (by decide +kernel) (by decide +kernel)
theorem w1296 : (Cond.instanceMethod ({ cls := "ButlerRemembersModel", name := "night", desc := "()V" } : Jvm.MethodName)) ∈ tblG := tblG_at 1296 (by decide +kernel) (by decide +kernel)
theorem w57 : Cond.selects "ButlerRemembersModel" ⟨"ButlerRemembersModel", "night", "()V"⟩ ⟨"ButlerRemembersModel", "night", "()V"⟩ ∈ tblG := tblG_at 57 (by decide +kernel) (by decide +kernel)
theorem w1297 : (Cond.code ({ cls := "ButlerRemembersModel", name := "night", desc := "()V" } : Jvm.MethodName) prog_14_method_40_code (2 : Nat) (Option.none : Option Jvm.ClassFile.FieldType)) ∈ tblG := tblG_at 1297 (by decide +kernel) (by decide +kernel)
theorem mX12_195 : zKV RX12 195 12 yX12_night cX12_night 2 none 0 := ⟨⟨_, _, rfl⟩, w1294, w1296, w57, w80, w1297, by decide, by decide, by decide, by decide +kernel⟩
theorem w1258 : (Cond.methodLink "ButlerRemembersModel" (198 : Nat) ({ cls := "ButlerRemembersModel", name := "isOut", desc := "(I)Z" } : Jvm.MethodName)) ∈ tblG := tblG_at 1258 (by decide +kernel) (by decide +kernel)
theorem w1260 : (Cond.instanceMethod ({ cls := "ButlerRemembersModel", name := "isOut", desc := "(I)Z" } : Jvm.MethodName)) ∈ tblG := tblG_at 1260 (by decide +kernel) (by decide +kernel)
theorem w50 : Cond.selects "ButlerRemembersModel" ⟨"ButlerRemembersModel", "isOut", "(I)Z"⟩ ⟨"ButlerRemembersModel", "isOut", "(I)Z"⟩ ∈ tblG := tblG_at 50 (by decide +kernel) (by decide +kernel)
theorem w1261 : (Cond.code ({ cls := "ButlerRemembersModel", name := "isOut", desc := "(I)Z" } : Jvm.MethodName) prog_14_method_21_code (2 : Nat) (Option.some Jvm.ClassFile.FieldType.boolean)) ∈ tblG := tblG_at 1261 (by decide +kernel) (by decide +kernel)
theorem mX12_198 : zKV RX12 198 12 yX12_isOut cX12_isOut 2 (some .boolean) 1 := ⟨⟨_, _, rfl⟩, w1258, w1260, w50, w80, w1261, by decide, by decide, by decide, by decide +kernel⟩
theorem w1254 : (Cond.methodLink "ButlerRemembersModel" (201 : Nat) ({ cls := "ButlerRemembersModel", name := "held", desc := "(I)I" } : Jvm.MethodName)) ∈ tblG := tblG_at 1254 (by decide +kernel) (by decide +kernel)
theorem w1256 : (Cond.instanceMethod ({ cls := "ButlerRemembersModel", name := "held", desc := "(I)I" } : Jvm.MethodName)) ∈ tblG := tblG_at 1256 (by decide +kernel) (by decide +kernel)
theorem w49 : Cond.selects "ButlerRemembersModel" ⟨"ButlerRemembersModel", "held", "(I)I"⟩ ⟨"ButlerRemembersModel", "held", "(I)I"⟩ ∈ tblG := tblG_at 49 (by decide +kernel) (by decide +kernel)
theorem w1257 : (Cond.code ({ cls := "ButlerRemembersModel", name := "held", desc := "(I)I" } : Jvm.MethodName) prog_14_method_50_code (4 : Nat) (Option.some Jvm.ClassFile.FieldType.int)) ∈ tblG := tblG_at 1257 (by decide +kernel) (by decide +kernel)
theorem mX12_201 : zKV RX12 201 12 yX12_held cX12_held 4 (some .int) 1 := ⟨⟨_, _, rfl⟩, w1254, w1256, w49, w80, w1257, by decide, by decide, by decide, by decide +kernel⟩
theorem w1250 : (Cond.methodLink "ButlerRemembersModel" (204 : Nat) ({ cls := "ButlerRemembersModel", name := "lostWith", desc := "(I)I" } : Jvm.MethodName)) ∈ tblG := tblG_at 1250 (by decide +kernel) (by decide +kernel)
theorem w1252 : (Cond.instanceMethod ({ cls := "ButlerRemembersModel", name := "lostWith", desc := "(I)I" } : Jvm.MethodName)) ∈ tblG := tblG_at 1252 (by decide +kernel) (by decide +kernel)
theorem w48 : Cond.selects "ButlerRemembersModel" ⟨"ButlerRemembersModel", "lostWith", "(I)I"⟩ ⟨"ButlerRemembersModel", "lostWith", "(I)I"⟩ ∈ tblG := tblG_at 48 (by decide +kernel) (by decide +kernel)
theorem w1253 : (Cond.code ({ cls := "ButlerRemembersModel", name := "lostWith", desc := "(I)I" } : Jvm.MethodName) prog_14_method_52_code (2 : Nat) (Option.some Jvm.ClassFile.FieldType.int)) ∈ tblG := tblG_at 1253 (by decide +kernel) (by decide +kernel)
theorem mX12_204 : zKV RX12 204 12 yX12_lostWith cX12_lostWith 2 (some .int) 1 := ⟨⟨_, _, rfl⟩, w1250, w1252, w48, w80, w1253, by decide, by decide, by decide, by decide +kernel⟩
theorem w1266 : (Cond.methodLink "ButlerRemembersModel" (207 : Nat) ({ cls := "ButlerRemembersModel", name := "hoursNow", desc := "()I" } : Jvm.MethodName)) ∈ tblG := tblG_at 1266 (by decide +kernel) (by decide +kernel)
theorem w1268 : (Cond.instanceMethod ({ cls := "ButlerRemembersModel", name := "hoursNow", desc := "()I" } : Jvm.MethodName)) ∈ tblG := tblG_at 1268 (by decide +kernel) (by decide +kernel)
theorem w51 : Cond.selects "ButlerRemembersModel" ⟨"ButlerRemembersModel", "hoursNow", "()I"⟩ ⟨"ButlerRemembersModel", "hoursNow", "()I"⟩ ∈ tblG := tblG_at 51 (by decide +kernel) (by decide +kernel)
theorem w1269 : (Cond.code ({ cls := "ButlerRemembersModel", name := "hoursNow", desc := "()I" } : Jvm.MethodName) prog_14_method_49_code (1 : Nat) (Option.some Jvm.ClassFile.FieldType.int)) ∈ tblG := tblG_at 1269 (by decide +kernel) (by decide +kernel)
theorem mX12_207 : zKV RX12 207 12 yX12_hoursNow cX12_hoursNow 1 (some .int) 0 := ⟨⟨_, _, rfl⟩, w1266, w1268, w51, w80, w1269, by decide, by decide, by decide, by decide +kernel⟩
theorem w1270 : (Cond.methodLink "ButlerRemembersModel" (210 : Nat) ({ cls := "ButlerRemembersModel", name := "done", desc := "()I" } : Jvm.MethodName)) ∈ tblG := tblG_at 1270 (by decide +kernel) (by decide +kernel)
theorem w1272 : (Cond.instanceMethod ({ cls := "ButlerRemembersModel", name := "done", desc := "()I" } : Jvm.MethodName)) ∈ tblG := tblG_at 1272 (by decide +kernel) (by decide +kernel)
theorem w52 : Cond.selects "ButlerRemembersModel" ⟨"ButlerRemembersModel", "done", "()I"⟩ ⟨"ButlerRemembersModel", "done", "()I"⟩ ∈ tblG := tblG_at 52 (by decide +kernel) (by decide +kernel)
theorem w1273 : (Cond.code ({ cls := "ButlerRemembersModel", name := "done", desc := "()I" } : Jvm.MethodName) prog_14_method_44_code (3 : Nat) (Option.some Jvm.ClassFile.FieldType.int)) ∈ tblG := tblG_at 1273 (by decide +kernel) (by decide +kernel)
theorem mX12_210 : zKV RX12 210 12 yX12_done cX12_done 3 (some .int) 0 := ⟨⟨_, _, rfl⟩, w1270, w1272, w52, w80, w1273, by decide, by decide, by decide, by decide +kernel⟩
theorem w1278 : (Cond.methodLink "ButlerRemembersModel" (213 : Nat) ({ cls := "ButlerRemembersModel", name := "tellings", desc := "()I" } : Jvm.MethodName)) ∈ tblG := tblG_at 1278 (by decide +kernel) (by decide +kernel)
theorem w1280 : (Cond.instanceMethod ({ cls := "ButlerRemembersModel", name := "tellings", desc := "()I" } : Jvm.MethodName)) ∈ tblG := tblG_at 1280 (by decide +kernel) (by decide +kernel)
theorem w54 : Cond.selects "ButlerRemembersModel" ⟨"ButlerRemembersModel", "tellings", "()I"⟩ ⟨"ButlerRemembersModel", "tellings", "()I"⟩ ∈ tblG := tblG_at 54 (by decide +kernel) (by decide +kernel)
theorem w1281 : (Cond.code ({ cls := "ButlerRemembersModel", name := "tellings", desc := "()I" } : Jvm.MethodName) prog_14_method_47_code (2 : Nat) (Option.some Jvm.ClassFile.FieldType.int)) ∈ tblG := tblG_at 1281 (by decide +kernel) (by decide +kernel)
theorem mX12_213 : zKV RX12 213 12 yX12_tellings cX12_tellings 2 (some .int) 0 := ⟨⟨_, _, rfl⟩, w1278, w1280, w54, w80, w1281, by decide, by decide, by decide, by decide +kernel⟩
theorem w1289 : (Cond.methodLink "ButlerRemembersModel" (216 : Nat) ({ cls := "ButlerRemembersModel", name := "days", desc := "(Z)I" } : Jvm.MethodName)) ∈ tblG := tblG_at 1289 (by decide +kernel) (by decide +kernel)
theorem w1291 : (Cond.instanceMethod ({ cls := "ButlerRemembersModel", name := "days", desc := "(Z)I" } : Jvm.MethodName)) ∈ tblG := tblG_at 1291 (by decide +kernel) (by decide +kernel)
theorem w56 : Cond.selects "ButlerRemembersModel" ⟨"ButlerRemembersModel", "days", "(Z)I"⟩ ⟨"ButlerRemembersModel", "days", "(Z)I"⟩ ∈ tblG := tblG_at 56 (by decide +kernel) (by decide +kernel)
theorem w1292 : (Cond.code ({ cls := "ButlerRemembersModel", name := "days", desc := "(Z)I" } : Jvm.MethodName) prog_14_method_48_code (6 : Nat) (Option.some Jvm.ClassFile.FieldType.int)) ∈ tblG := tblG_at 1292 (by decide +kernel) (by decide +kernel)
theorem mX12_216 : zKV RX12 216 12 yX12_days cX12_days 6 (some .int) 1 := ⟨⟨_, _, rfl⟩, w1289, w1291, w56, w80, w1292, by decide, by decide, by decide, by decide +kernel⟩
theorem w1298 : (Cond.methodLink "ButlerRemembersModel" (220 : Nat) ({ cls := "ButlerRemembersModel", name := "crew", desc := "()I" } : Jvm.MethodName)) ∈ tblG := tblG_at 1298 (by decide +kernel) (by decide +kernel)
theorem w1300 : (Cond.instanceMethod ({ cls := "ButlerRemembersModel", name := "crew", desc := "()I" } : Jvm.MethodName)) ∈ tblG := tblG_at 1300 (by decide +kernel) (by decide +kernel)
theorem w58 : Cond.selects "ButlerRemembersModel" ⟨"ButlerRemembersModel", "crew", "()I"⟩ ⟨"ButlerRemembersModel", "crew", "()I"⟩ ∈ tblG := tblG_at 58 (by decide +kernel) (by decide +kernel)
theorem w1301 : (Cond.code ({ cls := "ButlerRemembersModel", name := "crew", desc := "()I" } : Jvm.MethodName) prog_14_method_51_code (5 : Nat) (Option.some Jvm.ClassFile.FieldType.int)) ∈ tblG := tblG_at 1301 (by decide +kernel) (by decide +kernel)
theorem mX12_220 : zKV RX12 220 12 yX12_crew cX12_crew 5 (some .int) 0 := ⟨⟨_, _, rfl⟩, w1298, w1300, w58, w80, w1301, by decide, by decide, by decide, by decide +kernel⟩
theorem w1302 : (Cond.methodLink "ButlerRemembersModel" (223 : Nat) ({ cls := "ButlerRemembersModel", name := "isSafe", desc := "()I" } : Jvm.MethodName)) ∈ tblG := tblG_at 1302 (by decide +kernel) (by decide +kernel)
theorem w1304 : (Cond.instanceMethod ({ cls := "ButlerRemembersModel", name := "isSafe", desc := "()I" } : Jvm.MethodName)) ∈ tblG := tblG_at 1304 (by decide +kernel) (by decide +kernel)
theorem w59 : Cond.selects "ButlerRemembersModel" ⟨"ButlerRemembersModel", "isSafe", "()I"⟩ ⟨"ButlerRemembersModel", "isSafe", "()I"⟩ ∈ tblG := tblG_at 59 (by decide +kernel) (by decide +kernel)
theorem w1305 : (Cond.code ({ cls := "ButlerRemembersModel", name := "isSafe", desc := "()I" } : Jvm.MethodName) prog_14_method_55_code (3 : Nat) (Option.some Jvm.ClassFile.FieldType.int)) ∈ tblG := tblG_at 1305 (by decide +kernel) (by decide +kernel)
theorem mX12_223 : zKV RX12 223 12 yX12_isSafe cX12_isSafe 3 (some .int) 0 := ⟨⟨_, _, rfl⟩, w1302, w1304, w59, w80, w1305, by decide, by decide, by decide, by decide +kernel⟩
theorem w1306 : (Cond.methodLink "ButlerRemembersModel" (226 : Nat) ({ cls := "ButlerRemembersModel", name := "outs", desc := "()I" } : Jvm.MethodName)) ∈ tblG := tblG_at 1306 (by decide +kernel) (by decide +kernel)
theorem w1308 : (Cond.instanceMethod ({ cls := "ButlerRemembersModel", name := "outs", desc := "()I" } : Jvm.MethodName)) ∈ tblG := tblG_at 1308 (by decide +kernel) (by decide +kernel)
theorem w60 : Cond.selects "ButlerRemembersModel" ⟨"ButlerRemembersModel", "outs", "()I"⟩ ⟨"ButlerRemembersModel", "outs", "()I"⟩ ∈ tblG := tblG_at 60 (by decide +kernel) (by decide +kernel)
theorem w1309 : (Cond.code ({ cls := "ButlerRemembersModel", name := "outs", desc := "()I" } : Jvm.MethodName) prog_14_method_54_code (3 : Nat) (Option.some Jvm.ClassFile.FieldType.int)) ∈ tblG := tblG_at 1309 (by decide +kernel) (by decide +kernel)
theorem mX12_226 : zKV RX12 226 12 yX12_outs cX12_outs 3 (some .int) 0 := ⟨⟨_, _, rfl⟩, w1306, w1308, w60, w80, w1309, by decide, by decide, by decide, by decide +kernel⟩
theorem w1322 : (Cond.methodLink "ButlerRemembersModel" (229 : Nat) ({ cls := "ButlerRemembersModel", name := "known", desc := "()I" } : Jvm.MethodName)) ∈ tblG := tblG_at 1322 (by decide +kernel) (by decide +kernel)
theorem w1324 : (Cond.instanceMethod ({ cls := "ButlerRemembersModel", name := "known", desc := "()I" } : Jvm.MethodName)) ∈ tblG := tblG_at 1324 (by decide +kernel) (by decide +kernel)
theorem w62 : Cond.selects "ButlerRemembersModel" ⟨"ButlerRemembersModel", "known", "()I"⟩ ⟨"ButlerRemembersModel", "known", "()I"⟩ ∈ tblG := tblG_at 62 (by decide +kernel) (by decide +kernel)
theorem w1325 : (Cond.code ({ cls := "ButlerRemembersModel", name := "known", desc := "()I" } : Jvm.MethodName) prog_14_method_45_code (3 : Nat) (Option.some Jvm.ClassFile.FieldType.int)) ∈ tblG := tblG_at 1325 (by decide +kernel) (by decide +kernel)
theorem mX12_229 : zKV RX12 229 12 yX12_known cX12_known 3 (some .int) 0 := ⟨⟨_, _, rfl⟩, w1322, w1324, w62, w80, w1325, by decide, by decide, by decide, by decide +kernel⟩
theorem w1318 : (Cond.methodLink "ButlerRemembersModel" (232 : Nat) ({ cls := "ButlerRemembersModel", name := "tells", desc := "(I)I" } : Jvm.MethodName)) ∈ tblG := tblG_at 1318 (by decide +kernel) (by decide +kernel)
theorem w1320 : (Cond.instanceMethod ({ cls := "ButlerRemembersModel", name := "tells", desc := "(I)I" } : Jvm.MethodName)) ∈ tblG := tblG_at 1320 (by decide +kernel) (by decide +kernel)
theorem w61 : Cond.selects "ButlerRemembersModel" ⟨"ButlerRemembersModel", "tells", "(I)I"⟩ ⟨"ButlerRemembersModel", "tells", "(I)I"⟩ ∈ tblG := tblG_at 61 (by decide +kernel) (by decide +kernel)
theorem w1321 : (Cond.code ({ cls := "ButlerRemembersModel", name := "tells", desc := "(I)I" } : Jvm.MethodName) prog_14_method_58_code (2 : Nat) (Option.some Jvm.ClassFile.FieldType.int)) ∈ tblG := tblG_at 1321 (by decide +kernel) (by decide +kernel)
theorem mX12_232 : zKV RX12 232 12 yX12_tells cX12_tells 2 (some .int) 1 := ⟨⟨_, _, rfl⟩, w1318, w1320, w61, w80, w1321, by decide, by decide, by decide, by decide +kernel⟩
theorem w1334 : (Cond.methodLink "ButlerRemembersModel" (235 : Nat) ({ cls := "ButlerRemembersModel", name := "isSo", desc := "(I)Z" } : Jvm.MethodName)) ∈ tblG := tblG_at 1334 (by decide +kernel) (by decide +kernel)
theorem w1336 : (Cond.instanceMethod ({ cls := "ButlerRemembersModel", name := "isSo", desc := "(I)Z" } : Jvm.MethodName)) ∈ tblG := tblG_at 1336 (by decide +kernel) (by decide +kernel)
theorem w63 : Cond.selects "ButlerRemembersModel" ⟨"ButlerRemembersModel", "isSo", "(I)Z"⟩ ⟨"ButlerRemembersModel", "isSo", "(I)Z"⟩ ∈ tblG := tblG_at 63 (by decide +kernel) (by decide +kernel)
theorem w1337 : (Cond.code ({ cls := "ButlerRemembersModel", name := "isSo", desc := "(I)Z" } : Jvm.MethodName) prog_14_method_61_code (3 : Nat) (Option.some Jvm.ClassFile.FieldType.boolean)) ∈ tblG := tblG_at 1337 (by decide +kernel) (by decide +kernel)
theorem mX12_235 : zKV RX12 235 12 yX12_isSo cX12_isSo 3 (some .boolean) 1 := ⟨⟨_, _, rfl⟩, w1334, w1336, w63, w80, w1337, by decide, by decide, by decide, by decide +kernel⟩
theorem w1351 : (Cond.methodLink "ButlerRemembersModel" (240 : Nat) ({ cls := "ButlerRemembersModel", name := "fraction", desc := "(JJI)J" } : Jvm.MethodName)) ∈ tblG := tblG_at 1351 (by decide +kernel) (by decide +kernel)
theorem w1352 : (Cond.static ({ cls := "ButlerRemembersModel", name := "fraction", desc := "(JJI)J" } : Jvm.MethodName)) ∈ tblG := tblG_at 1352 (by decide +kernel) (by decide +kernel)
theorem w1353 : (Cond.code ({ cls := "ButlerRemembersModel", name := "fraction", desc := "(JJI)J" } : Jvm.MethodName) prog_14_method_65_code (11 : Nat) (Option.some Jvm.ClassFile.FieldType.long)) ∈ tblG := tblG_at 1353 (by decide +kernel) (by decide +kernel)
theorem mX12_240 : zKS RX12 240 yX12_fraction cX12_fraction 11 (some .long) 3 := ⟨w1351, w1352, w80, w1353, by decide, by decide, by decide, by decide +kernel⟩
theorem w1358 : (Cond.methodLink "ButlerRemembersModel" (244 : Nat) ({ cls := "ButlerRemembersModel", name := "on", desc := "(II)I" } : Jvm.MethodName)) ∈ tblG := tblG_at 1358 (by decide +kernel) (by decide +kernel)
theorem mX12_244 : zKV RX12 244 12 yX12_on cX12_on 4 (some .int) 2 := ⟨⟨_, _, rfl⟩, w1358, w1315, w1316, w80, w1317, by decide, by decide, by decide, by decide +kernel⟩
theorem w1383 : (Cond.methodLink "ButlerRemembersModel" (250 : Nat) ({ cls := "ButlerRemembersModel", name := "from", desc := "(IIII)I" } : Jvm.MethodName)) ∈ tblG := tblG_at 1383 (by decide +kernel) (by decide +kernel)
theorem w1385 : (Cond.instanceMethod ({ cls := "ButlerRemembersModel", name := "from", desc := "(IIII)I" } : Jvm.MethodName)) ∈ tblG := tblG_at 1385 (by decide +kernel) (by decide +kernel)
theorem w65 : Cond.selects "ButlerRemembersModel" ⟨"ButlerRemembersModel", "from", "(IIII)I"⟩ ⟨"ButlerRemembersModel", "from", "(IIII)I"⟩ ∈ tblG := tblG_at 65 (by decide +kernel) (by decide +kernel)
theorem w1386 : (Cond.code ({ cls := "ButlerRemembersModel", name := "from", desc := "(IIII)I" } : Jvm.MethodName) prog_14_method_74_code (7 : Nat) (Option.some Jvm.ClassFile.FieldType.int)) ∈ tblG := tblG_at 1386 (by decide +kernel) (by decide +kernel)
theorem mX12_250 : zKV RX12 250 12 yX12_from cX12_from 7 (some .int) 4 := ⟨⟨_, _, rfl⟩, w1383, w1385, w65, w80, w1386, by decide, by decide, by decide, by decide +kernel⟩
theorem w1387 : (Cond.methodLink "ButlerRemembersModel" (254 : Nat) ({ cls := "ButlerRemembersModel", name := "body", desc := "(I)I" } : Jvm.MethodName)) ∈ tblG := tblG_at 1387 (by decide +kernel) (by decide +kernel)
theorem w1389 : (Cond.instanceMethod ({ cls := "ButlerRemembersModel", name := "body", desc := "(I)I" } : Jvm.MethodName)) ∈ tblG := tblG_at 1389 (by decide +kernel) (by decide +kernel)
theorem w66 : Cond.selects "ButlerRemembersModel" ⟨"ButlerRemembersModel", "body", "(I)I"⟩ ⟨"ButlerRemembersModel", "body", "(I)I"⟩ ∈ tblG := tblG_at 66 (by decide +kernel) (by decide +kernel)
theorem w1390 : (Cond.code ({ cls := "ButlerRemembersModel", name := "body", desc := "(I)I" } : Jvm.MethodName) prog_14_method_72_code (2 : Nat) (Option.some Jvm.ClassFile.FieldType.int)) ∈ tblG := tblG_at 1390 (by decide +kernel) (by decide +kernel)
theorem mX12_254 : zKV RX12 254 12 yX12_body cX12_body 2 (some .int) 1 := ⟨⟨_, _, rfl⟩, w1387, w1389, w66, w80, w1390, by decide, by decide, by decide, by decide +kernel⟩
theorem w1379 : (Cond.methodLink "ButlerRemembersModel" (257 : Nat) ({ cls := "ButlerRemembersModel", name := "all", desc := "(III)I" } : Jvm.MethodName)) ∈ tblG := tblG_at 1379 (by decide +kernel) (by decide +kernel)
theorem w1381 : (Cond.instanceMethod ({ cls := "ButlerRemembersModel", name := "all", desc := "(III)I" } : Jvm.MethodName)) ∈ tblG := tblG_at 1381 (by decide +kernel) (by decide +kernel)
theorem w64 : Cond.selects "ButlerRemembersModel" ⟨"ButlerRemembersModel", "all", "(III)I"⟩ ⟨"ButlerRemembersModel", "all", "(III)I"⟩ ∈ tblG := tblG_at 64 (by decide +kernel) (by decide +kernel)
theorem w1382 : (Cond.code ({ cls := "ButlerRemembersModel", name := "all", desc := "(III)I" } : Jvm.MethodName) prog_14_method_73_code (4 : Nat) (Option.some Jvm.ClassFile.FieldType.int)) ∈ tblG := tblG_at 1382 (by decide +kernel) (by decide +kernel)
theorem mX12_257 : zKV RX12 257 12 yX12_all cX12_all 4 (some .int) 3 := ⟨⟨_, _, rfl⟩, w1379, w1381, w64, w80, w1382, by decide, by decide, by decide, by decide +kernel⟩
theorem w1395 : (Cond.methodLink "ButlerRemembersModel" (260 : Nat) ({ cls := "java/lang/Math", name := "min", desc := "(II)I" } : Jvm.MethodName)) ∈ tblG := tblG_at 1395 (by decide +kernel) (by decide +kernel)
theorem mX12_260 : zKS RX12 260 yJ9_min_7cf53 cJ9_min_7cf53 2 (some .int) 2 := ⟨w1395, w531, w82, w532, by decide, by decide, by decide, by decide +kernel⟩
theorem w1408 : (Cond.methodLink "ButlerRemembersModel" (263 : Nat) ({ cls := "ButlerRemembersModel", name := "isTape", desc := "(I)Z" } : Jvm.MethodName)) ∈ tblG := tblG_at 1408 (by decide +kernel) (by decide +kernel)
theorem w1409 : (Cond.static ({ cls := "ButlerRemembersModel", name := "isTape", desc := "(I)Z" } : Jvm.MethodName)) ∈ tblG := tblG_at 1409 (by decide +kernel) (by decide +kernel)
theorem w1410 : (Cond.code ({ cls := "ButlerRemembersModel", name := "isTape", desc := "(I)Z" } : Jvm.MethodName) prog_14_method_79_code (1 : Nat) (Option.some Jvm.ClassFile.FieldType.boolean)) ∈ tblG := tblG_at 1410 (by decide +kernel) (by decide +kernel)
theorem mX12_263 : zKS RX12 263 yX12_isTape cX12_isTape 1 (some .boolean) 1 := ⟨w1408, w1409, w80, w1410, by decide, by decide, by decide, by decide +kernel⟩
theorem w440 : (Cond.methodLink "ButlerRemembers$Daughter" (7 : Nat) ({ cls := "ButlerRemembers$Duchess", name := "firmness", desc := "(IIIII)I" } : Jvm.MethodName)) ∈ tblG := tblG_at 440 (by decide +kernel) (by decide +kernel)
theorem w1429 : (Cond.sameMethod "ButlerRemembers$Duchess" "ButlerRemembers$Duchess" "firmness" "(IIIII)I") ∈ tblG := tblG_at 1429 (by decide +kernel) (by decide +kernel)
theorem w226 : (Cond.superclass "ButlerRemembers$Daughter" "ButlerRemembers$Duchess") ∈ tblG := tblG_at 226 (by decide +kernel) (by decide +kernel)
theorem mX2_7 : zKP RX2 7 ⟨"ButlerRemembers$Duchess", "firmness", "(IIIII)I"⟩ yX3_firmness cX3_firmness 6 (some .int) 5 := ⟨w440, w1429, w226, Or.inl rfl, rfl, w441, w72, w442, by decide, by decide, by decide +kernel⟩
theorem w946 : (Cond.methodLink "ButlerRemembers$Daughter" (11 : Nat) ({ cls := "ButlerRemembers$Turn", name := "begin", desc := "(I)V" } : Jvm.MethodName)) ∈ tblG := tblG_at 946 (by decide +kernel) (by decide +kernel)
theorem mX2_11 : zKV RX2 11 10 yX10_begin cX10_begin 2 none 1 := ⟨⟨_, _, rfl⟩, w946, w884, w885, w78, w886, by decide, by decide, by decide, by decide +kernel⟩
theorem w205 : (Cond.superclass "ButlerRemembers$Duchess" "ButlerRemembers$Master") ∈ tblG := tblG_at 205 (by decide +kernel) (by decide +kernel)
theorem w947 : (Cond.methodLink "ButlerRemembers$Daughter" (21 : Nat) ({ cls := "ButlerRemembers$Duchess", name := "tells", desc := "(LButlerRemembers$Turn;I)I" } : Jvm.MethodName)) ∈ tblG := tblG_at 947 (by decide +kernel) (by decide +kernel)
theorem w948 : (Cond.sameMethod "ButlerRemembers$Duchess" "ButlerRemembers$Master" "tells" "(LButlerRemembers$Turn;I)I") ∈ tblG := tblG_at 948 (by decide +kernel) (by decide +kernel)
theorem mX2_21 : zKP RX2 21 ⟨"ButlerRemembers$Duchess", "tells", "(LButlerRemembers$Turn;I)I"⟩ yX7_tells cX7_tells 3 (some .int) 2 := ⟨w947, w948, w226, Or.inr (w205), rfl, w931, w70, w953, by decide, by decide, by decide +kernel⟩
theorem w443 : (Cond.methodLink "ButlerRemembers$Duchess" (7 : Nat) ({ cls := "ButlerRemembers$Master", name := "firmness", desc := "(IIIII)I" } : Jvm.MethodName)) ∈ tblG := tblG_at 443 (by decide +kernel) (by decide +kernel)
theorem mX3_7 : zKP RX3 7 ⟨"ButlerRemembers$Master", "firmness", "(IIIII)I"⟩ yX7_firmness cX7_firmness 6 (some .int) 5 := ⟨w443, w425, w205, Or.inl rfl, rfl, w423, w70, w450, by decide, by decide, by decide +kernel⟩
theorem w894 : (Cond.methodLink "ButlerRemembers$Duchess" (11 : Nat) ({ cls := "ButlerRemembers$Turn", name := "begin", desc := "(I)V" } : Jvm.MethodName)) ∈ tblG := tblG_at 894 (by decide +kernel) (by decide +kernel)
theorem mX3_11 : zKV RX3 11 10 yX10_begin cX10_begin 2 none 1 := ⟨⟨_, _, rfl⟩, w894, w884, w885, w78, w886, by decide, by decide, by decide, by decide +kernel⟩
theorem w895 : (Cond.methodLink "ButlerRemembers$Duchess" (17 : Nat) ({ cls := "ButlerRemembers$Master", name := "dines", desc := "(LButlerRemembers$Turn;I)I" } : Jvm.MethodName)) ∈ tblG := tblG_at 895 (by decide +kernel) (by decide +kernel)
theorem mX3_17 : zKP RX3 17 ⟨"ButlerRemembers$Master", "dines", "(LButlerRemembers$Turn;I)I"⟩ yX7_dines cX7_dines 3 (some .int) 2 := ⟨w895, w879, w205, Or.inl rfl, rfl, w877, w70, w904, by decide, by decide, by decide +kernel⟩
theorem w432 : (Cond.methodLink "ButlerRemembers$Heir" (7 : Nat) ({ cls := "ButlerRemembers$Master", name := "firmness", desc := "(IIIII)I" } : Jvm.MethodName)) ∈ tblG := tblG_at 432 (by decide +kernel) (by decide +kernel)
theorem mX4_7 : zKP RX4 7 ⟨"ButlerRemembers$Master", "firmness", "(IIIII)I"⟩ yX7_firmness cX7_firmness 6 (some .int) 5 := ⟨w432, w425, w198, Or.inl rfl, rfl, w423, w70, w450, by decide, by decide, by decide +kernel⟩
theorem w916 : (Cond.methodLink "ButlerRemembers$Heir" (11 : Nat) ({ cls := "ButlerRemembers$Turn", name := "begin", desc := "(I)V" } : Jvm.MethodName)) ∈ tblG := tblG_at 916 (by decide +kernel) (by decide +kernel)
theorem mX4_11 : zKV RX4 11 10 yX10_begin cX10_begin 2 none 1 := ⟨⟨_, _, rfl⟩, w916, w884, w885, w78, w886, by decide, by decide, by decide, by decide +kernel⟩
theorem w917 : (Cond.methodLink "ButlerRemembers$Heir" (17 : Nat) ({ cls := "ButlerRemembers$Master", name := "nods", desc := "(LButlerRemembers$Turn;I)I" } : Jvm.MethodName)) ∈ tblG := tblG_at 917 (by decide +kernel) (by decide +kernel)
theorem mX4_17 : zKP RX4 17 ⟨"ButlerRemembers$Master", "nods", "(LButlerRemembers$Turn;I)I"⟩ yX7_nods cX7_nods 3 (some .int) 2 := ⟨w917, w909, w198, Or.inl rfl, rfl, w907, w70, w928, by decide, by decide, by decide +kernel⟩
theorem w530 : (Cond.methodLink "ButlerRemembers$House" (41 : Nat) ({ cls := "java/lang/Math", name := "min", desc := "(II)I" } : Jvm.MethodName)) ∈ tblG := tblG_at 530 (by decide +kernel) (by decide +kernel)
theorem mX5_41 : zKS RX5 41 yJ9_min_7cf53 cJ9_min_7cf53 2 (some .int) 2 := ⟨w530, w531, w82, w532, by decide, by decide, by decide, by decide +kernel⟩
theorem w533 : (Cond.methodLink "ButlerRemembers$House" (47 : Nat) ({ cls := "ButlerRemembers$House", name := "takeClause", desc := "()Z" } : Jvm.MethodName)) ∈ tblG := tblG_at 533 (by decide +kernel) (by decide +kernel)
theorem w535 : (Cond.instanceMethod ({ cls := "ButlerRemembers$House", name := "takeClause", desc := "()Z" } : Jvm.MethodName)) ∈ tblG := tblG_at 535 (by decide +kernel) (by decide +kernel)
theorem w9 : Cond.selects "ButlerRemembers$House" ⟨"ButlerRemembers$House", "takeClause", "()Z"⟩ ⟨"ButlerRemembers$House", "takeClause", "()Z"⟩ ∈ tblG := tblG_at 9 (by decide +kernel) (by decide +kernel)
theorem w536 : (Cond.code ({ cls := "ButlerRemembers$House", name := "takeClause", desc := "()Z" } : Jvm.MethodName) prog_7_method_6_code (3 : Nat) (Option.some Jvm.ClassFile.FieldType.boolean)) ∈ tblG := tblG_at 536 (by decide +kernel) (by decide +kernel)
theorem mX5_47 : zKV RX5 47 5 yX5_takeClause cX5_takeClause 3 (some .boolean) 0 := ⟨⟨_, _, rfl⟩, w533, w535, w9, w77, w536, by decide, by decide, by decide, by decide +kernel⟩
theorem w537 : (Cond.methodLink "ButlerRemembers$House" (51 : Nat) ({ cls := "ButlerRemembers$House", name := "sign", desc := "()I" } : Jvm.MethodName)) ∈ tblG := tblG_at 537 (by decide +kernel) (by decide +kernel)
theorem w539 : (Cond.instanceMethod ({ cls := "ButlerRemembers$House", name := "sign", desc := "()I" } : Jvm.MethodName)) ∈ tblG := tblG_at 539 (by decide +kernel) (by decide +kernel)
theorem w10 : Cond.selects "ButlerRemembers$House" ⟨"ButlerRemembers$House", "sign", "()I"⟩ ⟨"ButlerRemembers$House", "sign", "()I"⟩ ∈ tblG := tblG_at 10 (by decide +kernel) (by decide +kernel)
theorem w540 : (Cond.code ({ cls := "ButlerRemembers$House", name := "sign", desc := "()I" } : Jvm.MethodName) prog_7_method_3_code (1 : Nat) (Option.some Jvm.ClassFile.FieldType.int)) ∈ tblG := tblG_at 540 (by decide +kernel) (by decide +kernel)
theorem mX5_51 : zKV RX5 51 5 yX5_sign cX5_sign 1 (some .int) 0 := ⟨⟨_, _, rfl⟩, w537, w539, w10, w77, w540, by decide, by decide, by decide, by decide +kernel⟩
theorem w542 : (Cond.methodLink "ButlerRemembers$House" (69 : Nat) ({ cls := "ButlerRemembers$House", name := "takeWord", desc := "(Ljava/lang/String;)Z" } : Jvm.MethodName)) ∈ tblG := tblG_at 542 (by decide +kernel) (by decide +kernel)
theorem w544 : (Cond.instanceMethod ({ cls := "ButlerRemembers$House", name := "takeWord", desc := "(Ljava/lang/String;)Z" } : Jvm.MethodName)) ∈ tblG := tblG_at 544 (by decide +kernel) (by decide +kernel)
theorem w11 : Cond.selects "ButlerRemembers$House" ⟨"ButlerRemembers$House", "takeWord", "(Ljava/lang/String;)Z"⟩ ⟨"ButlerRemembers$House", "takeWord", "(Ljava/lang/String;)Z"⟩ ∈ tblG := tblG_at 11 (by decide +kernel) (by decide +kernel)
theorem w545 : (Cond.code ({ cls := "ButlerRemembers$House", name := "takeWord", desc := "(Ljava/lang/String;)Z" } : Jvm.MethodName) prog_7_method_5_code (3 : Nat) (Option.some Jvm.ClassFile.FieldType.boolean)) ∈ tblG := tblG_at 545 (by decide +kernel) (by decide +kernel)
theorem mX5_69 : zKV RX5 69 5 yX5_takeWord cX5_takeWord 3 (some .boolean) 1 := ⟨⟨_, _, rfl⟩, w542, w544, w11, w77, w545, by decide, by decide, by decide, by decide +kernel⟩
theorem w594 : (Cond.methodLink "ButlerRemembers$House" (73 : Nat) ({ cls := "ButlerRemembers$House", name := "takeNumber", desc := "()Z" } : Jvm.MethodName)) ∈ tblG := tblG_at 594 (by decide +kernel) (by decide +kernel)
theorem w596 : (Cond.instanceMethod ({ cls := "ButlerRemembers$House", name := "takeNumber", desc := "()Z" } : Jvm.MethodName)) ∈ tblG := tblG_at 596 (by decide +kernel) (by decide +kernel)
theorem w12 : Cond.selects "ButlerRemembers$House" ⟨"ButlerRemembers$House", "takeNumber", "()Z"⟩ ⟨"ButlerRemembers$House", "takeNumber", "()Z"⟩ ∈ tblG := tblG_at 12 (by decide +kernel) (by decide +kernel)
theorem w597 : (Cond.code ({ cls := "ButlerRemembers$House", name := "takeNumber", desc := "()Z" } : Jvm.MethodName) prog_7_method_11_code (3 : Nat) (Option.some Jvm.ClassFile.FieldType.boolean)) ∈ tblG := tblG_at 597 (by decide +kernel) (by decide +kernel)
theorem mX5_73 : zKV RX5 73 5 yX5_takeNumber cX5_takeNumber 3 (some .boolean) 0 := ⟨⟨_, _, rfl⟩, w594, w596, w12, w77, w597, by decide, by decide, by decide, by decide +kernel⟩
theorem w601 : (Cond.methodLink "ButlerRemembers$House" (82 : Nat) ({ cls := "ButlerRemembers$House", name := "takeEither", desc := "(I)Z" } : Jvm.MethodName)) ∈ tblG := tblG_at 601 (by decide +kernel) (by decide +kernel)
theorem w603 : (Cond.instanceMethod ({ cls := "ButlerRemembers$House", name := "takeEither", desc := "(I)Z" } : Jvm.MethodName)) ∈ tblG := tblG_at 603 (by decide +kernel) (by decide +kernel)
theorem w13 : Cond.selects "ButlerRemembers$House" ⟨"ButlerRemembers$House", "takeEither", "(I)Z"⟩ ⟨"ButlerRemembers$House", "takeEither", "(I)Z"⟩ ∈ tblG := tblG_at 13 (by decide +kernel) (by decide +kernel)
theorem w604 : (Cond.code ({ cls := "ButlerRemembers$House", name := "takeEither", desc := "(I)Z" } : Jvm.MethodName) prog_7_method_7_code (4 : Nat) (Option.some Jvm.ClassFile.FieldType.boolean)) ∈ tblG := tblG_at 604 (by decide +kernel) (by decide +kernel)
theorem mX5_82 : zKV RX5 82 5 yX5_takeEither cX5_takeEither 4 (some .boolean) 1 := ⟨⟨_, _, rfl⟩, w601, w603, w13, w77, w604, by decide, by decide, by decide, by decide +kernel⟩
theorem w682 : (Cond.methodLink "ButlerRemembers$House" (86 : Nat) ({ cls := "ButlerRemembers$House", name := "addStep", desc := "(II)Z" } : Jvm.MethodName)) ∈ tblG := tblG_at 682 (by decide +kernel) (by decide +kernel)
theorem w684 : (Cond.instanceMethod ({ cls := "ButlerRemembers$House", name := "addStep", desc := "(II)Z" } : Jvm.MethodName)) ∈ tblG := tblG_at 684 (by decide +kernel) (by decide +kernel)
theorem w17 : Cond.selects "ButlerRemembers$House" ⟨"ButlerRemembers$House", "addStep", "(II)Z"⟩ ⟨"ButlerRemembers$House", "addStep", "(II)Z"⟩ ∈ tblG := tblG_at 17 (by decide +kernel) (by decide +kernel)
theorem w685 : (Cond.code ({ cls := "ButlerRemembers$House", name := "addStep", desc := "(II)Z" } : Jvm.MethodName) prog_7_method_12_code (3 : Nat) (Option.some Jvm.ClassFile.FieldType.boolean)) ∈ tblG := tblG_at 685 (by decide +kernel) (by decide +kernel)
theorem mX5_86 : zKV RX5 86 5 yX5_addStep cX5_addStep 3 (some .boolean) 2 := ⟨⟨_, _, rfl⟩, w682, w684, w17, w77, w685, by decide, by decide, by decide, by decide +kernel⟩
theorem w605 : (Cond.methodLink "ButlerRemembers$House" (90 : Nat) ({ cls := "ButlerRemembers$House", name := "takeBoth", desc := "(I)Z" } : Jvm.MethodName)) ∈ tblG := tblG_at 605 (by decide +kernel) (by decide +kernel)
theorem w607 : (Cond.instanceMethod ({ cls := "ButlerRemembers$House", name := "takeBoth", desc := "(I)Z" } : Jvm.MethodName)) ∈ tblG := tblG_at 607 (by decide +kernel) (by decide +kernel)
theorem w14 : Cond.selects "ButlerRemembers$House" ⟨"ButlerRemembers$House", "takeBoth", "(I)Z"⟩ ⟨"ButlerRemembers$House", "takeBoth", "(I)Z"⟩ ∈ tblG := tblG_at 14 (by decide +kernel) (by decide +kernel)
theorem w608 : (Cond.code ({ cls := "ButlerRemembers$House", name := "takeBoth", desc := "(I)Z" } : Jvm.MethodName) prog_7_method_8_code (4 : Nat) (Option.some Jvm.ClassFile.FieldType.boolean)) ∈ tblG := tblG_at 608 (by decide +kernel) (by decide +kernel)
theorem mX5_90 : zKV RX5 90 5 yX5_takeBoth cX5_takeBoth 4 (some .boolean) 1 := ⟨⟨_, _, rfl⟩, w605, w607, w14, w77, w608, by decide, by decide, by decide, by decide +kernel⟩
theorem w609 : (Cond.methodLink "ButlerRemembers$House" (93 : Nat) ({ cls := "ButlerRemembers$House", name := "takeOne", desc := "(I)Z" } : Jvm.MethodName)) ∈ tblG := tblG_at 609 (by decide +kernel) (by decide +kernel)
theorem w611 : (Cond.instanceMethod ({ cls := "ButlerRemembers$House", name := "takeOne", desc := "(I)Z" } : Jvm.MethodName)) ∈ tblG := tblG_at 611 (by decide +kernel) (by decide +kernel)
theorem w15 : Cond.selects "ButlerRemembers$House" ⟨"ButlerRemembers$House", "takeOne", "(I)Z"⟩ ⟨"ButlerRemembers$House", "takeOne", "(I)Z"⟩ ∈ tblG := tblG_at 15 (by decide +kernel) (by decide +kernel)
theorem w612 : (Cond.code ({ cls := "ButlerRemembers$House", name := "takeOne", desc := "(I)Z" } : Jvm.MethodName) prog_7_method_9_code (3 : Nat) (Option.some Jvm.ClassFile.FieldType.boolean)) ∈ tblG := tblG_at 612 (by decide +kernel) (by decide +kernel)
theorem mX5_93 : zKV RX5 93 5 yX5_takeOne cX5_takeOne 3 (some .boolean) 1 := ⟨⟨_, _, rfl⟩, w609, w611, w15, w77, w612, by decide, by decide, by decide, by decide +kernel⟩
theorem w613 : (Cond.methodLink "ButlerRemembers$House" (96 : Nat) ({ cls := "ButlerRemembers$House", name := "takeTest", desc := "()Z" } : Jvm.MethodName)) ∈ tblG := tblG_at 613 (by decide +kernel) (by decide +kernel)
theorem w615 : (Cond.instanceMethod ({ cls := "ButlerRemembers$House", name := "takeTest", desc := "()Z" } : Jvm.MethodName)) ∈ tblG := tblG_at 615 (by decide +kernel) (by decide +kernel)
theorem w16 : Cond.selects "ButlerRemembers$House" ⟨"ButlerRemembers$House", "takeTest", "()Z"⟩ ⟨"ButlerRemembers$House", "takeTest", "()Z"⟩ ∈ tblG := tblG_at 16 (by decide +kernel) (by decide +kernel)
theorem w616 : (Cond.code ({ cls := "ButlerRemembers$House", name := "takeTest", desc := "()Z" } : Jvm.MethodName) prog_7_method_10_code (3 : Nat) (Option.some Jvm.ClassFile.FieldType.boolean)) ∈ tblG := tblG_at 616 (by decide +kernel) (by decide +kernel)
theorem mX5_96 : zKV RX5 96 5 yX5_takeTest cX5_takeTest 3 (some .boolean) 0 := ⟨⟨_, _, rfl⟩, w613, w615, w16, w77, w616, by decide, by decide, by decide, by decide +kernel⟩
theorem w618 : (Cond.methodLink "ButlerRemembers$House" (103 : Nat) ({ cls := "ButlerRemembers$House", name := "placeIn", desc := "(Ljava/lang/String;I)I" } : Jvm.MethodName)) ∈ tblG := tblG_at 618 (by decide +kernel) (by decide +kernel)
theorem w619 : (Cond.static ({ cls := "ButlerRemembers$House", name := "placeIn", desc := "(Ljava/lang/String;I)I" } : Jvm.MethodName)) ∈ tblG := tblG_at 619 (by decide +kernel) (by decide +kernel)
theorem w620 : (Cond.code ({ cls := "ButlerRemembers$House", name := "placeIn", desc := "(Ljava/lang/String;I)I" } : Jvm.MethodName) prog_7_method_4_code (2 : Nat) (Option.some Jvm.ClassFile.FieldType.int)) ∈ tblG := tblG_at 620 (by decide +kernel) (by decide +kernel)
theorem mX5_103 : zKS RX5 103 yX5_placeIn cX5_placeIn 2 (some .int) 2 := ⟨w618, w619, w77, w620, by decide, by decide, by decide, by decide +kernel⟩
theorem w679 : (Cond.methodLink "ButlerRemembers$House" (109 : Nat) ({ cls := "ButlerRemembers$House", name := "factsThat", desc := "(II)I" } : Jvm.MethodName)) ∈ tblG := tblG_at 679 (by decide +kernel) (by decide +kernel)
theorem w680 : (Cond.static ({ cls := "ButlerRemembers$House", name := "factsThat", desc := "(II)I" } : Jvm.MethodName)) ∈ tblG := tblG_at 680 (by decide +kernel) (by decide +kernel)
theorem w681 : (Cond.code ({ cls := "ButlerRemembers$House", name := "factsThat", desc := "(II)I" } : Jvm.MethodName) prog_7_method_14_code (4 : Nat) (Option.some Jvm.ClassFile.FieldType.int)) ∈ tblG := tblG_at 681 (by decide +kernel) (by decide +kernel)
theorem mX5_109 : zKS RX5 109 yX5_factsThat cX5_factsThat 4 (some .int) 2 := ⟨w679, w680, w77, w681, by decide, by decide, by decide, by decide +kernel⟩
theorem w396 : (Cond.methodLink "ButlerRemembers$House" (112 : Nat) ({ cls := "ButlerRemembers$House", name := "compares", desc := "(III)Z" } : Jvm.MethodName)) ∈ tblG := tblG_at 396 (by decide +kernel) (by decide +kernel)
theorem w397 : (Cond.static ({ cls := "ButlerRemembers$House", name := "compares", desc := "(III)Z" } : Jvm.MethodName)) ∈ tblG := tblG_at 397 (by decide +kernel) (by decide +kernel)
theorem w398 : (Cond.code ({ cls := "ButlerRemembers$House", name := "compares", desc := "(III)Z" } : Jvm.MethodName) prog_7_method_13_code (3 : Nat) (Option.some Jvm.ClassFile.FieldType.boolean)) ∈ tblG := tblG_at 398 (by decide +kernel) (by decide +kernel)
theorem mX5_112 : zKS RX5 112 yX5_compares cX5_compares 3 (some .boolean) 3 := ⟨w396, w397, w77, w398, by decide, by decide, by decide, by decide +kernel⟩
theorem w390 : (Cond.methodLink "ButlerRemembers$House" (116 : Nat) ({ cls := "java/util/Arrays", name := "fill", desc := "([II)V" } : Jvm.MethodName)) ∈ tblG := tblG_at 390 (by decide +kernel) (by decide +kernel)
theorem w391 : (Cond.static ({ cls := "java/util/Arrays", name := "fill", desc := "([II)V" } : Jvm.MethodName)) ∈ tblG := tblG_at 391 (by decide +kernel) (by decide +kernel)
theorem w81 : (Cond.initialized "java/util/Arrays") ∈ tblG := tblG_at 81 (by decide +kernel) (by decide +kernel)
theorem w392 : (Cond.code ({ cls := "java/util/Arrays", name := "fill", desc := "([II)V" } : Jvm.MethodName) prog_22_method_103_code (4 : Nat) (Option.none : Option Jvm.ClassFile.FieldType)) ∈ tblG := tblG_at 392 (by decide +kernel) (by decide +kernel)
theorem mX5_116 : zKS RX5 116 yJ7_fill_53178 cJ7_fill_53178 4 none 2 := ⟨w390, w391, w81, w392, by decide, by decide, by decide, by decide +kernel⟩
theorem w393 : (Cond.methodLink "ButlerRemembers$House" (122 : Nat) ({ cls := "ButlerRemembers$House", name := "valueOf", desc := "(IIIII)I" } : Jvm.MethodName)) ∈ tblG := tblG_at 393 (by decide +kernel) (by decide +kernel)
theorem w394 : (Cond.static ({ cls := "ButlerRemembers$House", name := "valueOf", desc := "(IIIII)I" } : Jvm.MethodName)) ∈ tblG := tblG_at 394 (by decide +kernel) (by decide +kernel)
theorem w395 : (Cond.code ({ cls := "ButlerRemembers$House", name := "valueOf", desc := "(IIIII)I" } : Jvm.MethodName) prog_7_method_16_code (5 : Nat) (Option.some Jvm.ClassFile.FieldType.int)) ∈ tblG := tblG_at 395 (by decide +kernel) (by decide +kernel)
theorem mX5_122 : zKS RX5 122 yX5_valueOf cX5_valueOf 5 (some .int) 5 := ⟨w393, w394, w77, w395, by decide, by decide, by decide, by decide +kernel⟩
theorem w399 : (Cond.methodLink "ButlerRemembers$House" (126 : Nat) ({ cls := "ButlerRemembers$House", name := "push", desc := "(I)V" } : Jvm.MethodName)) ∈ tblG := tblG_at 399 (by decide +kernel) (by decide +kernel)
theorem w401 : (Cond.instanceMethod ({ cls := "ButlerRemembers$House", name := "push", desc := "(I)V" } : Jvm.MethodName)) ∈ tblG := tblG_at 401 (by decide +kernel) (by decide +kernel)
theorem w3 : Cond.selects "ButlerRemembers$House" ⟨"ButlerRemembers$House", "push", "(I)V"⟩ ⟨"ButlerRemembers$House", "push", "(I)V"⟩ ∈ tblG := tblG_at 3 (by decide +kernel) (by decide +kernel)
theorem w402 : (Cond.code ({ cls := "ButlerRemembers$House", name := "push", desc := "(I)V" } : Jvm.MethodName) prog_7_method_18_code (2 : Nat) (Option.none : Option Jvm.ClassFile.FieldType)) ∈ tblG := tblG_at 402 (by decide +kernel) (by decide +kernel)
theorem mX5_126 : zKV RX5 126 5 yX5_push cX5_push 2 none 1 := ⟨⟨_, _, rfl⟩, w399, w401, w3, w77, w402, by decide, by decide, by decide, by decide +kernel⟩
theorem w403 : (Cond.methodLink "ButlerRemembers$House" (130 : Nat) ({ cls := "ButlerRemembers$House", name := "pop", desc := "()I" } : Jvm.MethodName)) ∈ tblG := tblG_at 403 (by decide +kernel) (by decide +kernel)
theorem w405 : (Cond.instanceMethod ({ cls := "ButlerRemembers$House", name := "pop", desc := "()I" } : Jvm.MethodName)) ∈ tblG := tblG_at 405 (by decide +kernel) (by decide +kernel)
theorem w4 : Cond.selects "ButlerRemembers$House" ⟨"ButlerRemembers$House", "pop", "()I"⟩ ⟨"ButlerRemembers$House", "pop", "()I"⟩ ∈ tblG := tblG_at 4 (by decide +kernel) (by decide +kernel)
theorem w406 : (Cond.code ({ cls := "ButlerRemembers$House", name := "pop", desc := "()I" } : Jvm.MethodName) prog_7_method_19_code (1 : Nat) (Option.some Jvm.ClassFile.FieldType.int)) ∈ tblG := tblG_at 406 (by decide +kernel) (by decide +kernel)
theorem mX5_130 : zKV RX5 130 5 yX5_pop cX5_pop 1 (some .int) 0 := ⟨⟨_, _, rfl⟩, w403, w405, w4, w77, w406, by decide, by decide, by decide, by decide +kernel⟩
theorem w407 : (Cond.methodLink "ButlerRemembers$House" (133 : Nat) ({ cls := "ButlerRemembers$House", name := "addWeight", desc := "(II[I)V" } : Jvm.MethodName)) ∈ tblG := tblG_at 407 (by decide +kernel) (by decide +kernel)
theorem w408 : (Cond.static ({ cls := "ButlerRemembers$House", name := "addWeight", desc := "(II[I)V" } : Jvm.MethodName)) ∈ tblG := tblG_at 408 (by decide +kernel) (by decide +kernel)
theorem w409 : (Cond.code ({ cls := "ButlerRemembers$House", name := "addWeight", desc := "(II[I)V" } : Jvm.MethodName) prog_7_method_20_code (4 : Nat) (Option.none : Option Jvm.ClassFile.FieldType)) ∈ tblG := tblG_at 409 (by decide +kernel) (by decide +kernel)
theorem mX5_133 : zKS RX5 133 yX5_addWeight cX5_addWeight 4 none 3 := ⟨w407, w408, w77, w409, by decide, by decide, by decide, by decide +kernel⟩
theorem w410 : (Cond.methodLink "ButlerRemembers$House" (137 : Nat) ({ cls := "ButlerRemembers$House", name := "join", desc := "(II)V" } : Jvm.MethodName)) ∈ tblG := tblG_at 410 (by decide +kernel) (by decide +kernel)
theorem w412 : (Cond.instanceMethod ({ cls := "ButlerRemembers$House", name := "join", desc := "(II)V" } : Jvm.MethodName)) ∈ tblG := tblG_at 412 (by decide +kernel) (by decide +kernel)
theorem w5 : Cond.selects "ButlerRemembers$House" ⟨"ButlerRemembers$House", "join", "(II)V"⟩ ⟨"ButlerRemembers$House", "join", "(II)V"⟩ ∈ tblG := tblG_at 5 (by decide +kernel) (by decide +kernel)
theorem w413 : (Cond.code ({ cls := "ButlerRemembers$House", name := "join", desc := "(II)V" } : Jvm.MethodName) prog_7_method_17_code (3 : Nat) (Option.none : Option Jvm.ClassFile.FieldType)) ∈ tblG := tblG_at 413 (by decide +kernel) (by decide +kernel)
theorem mX5_137 : zKV RX5 137 5 yX5_join cX5_join 3 none 2 := ⟨⟨_, _, rfl⟩, w410, w412, w5, w77, w413, by decide, by decide, by decide, by decide +kernel⟩
theorem w695 : (Cond.methodLink "ButlerRemembers$Household" (75 : Nat) ({ cls := "ButlerRemembers$Household", name := "hasMaster", desc := "(I)Z" } : Jvm.MethodName)) ∈ tblG := tblG_at 695 (by decide +kernel) (by decide +kernel)
theorem mX6_75 : zKV RX6 75 6 yX6_hasMaster cX6_hasMaster 2 (some .boolean) 1 := ⟨⟨_, _, rfl⟩, w695, w371, w372, w69, w373, by decide, by decide, by decide, by decide +kernel⟩
theorem w735 : (Cond.methodLink "ButlerRemembers$Household" (79 : Nat) ({ cls := "java/lang/Integer", name := "bitCount", desc := "(I)I" } : Jvm.MethodName)) ∈ tblG := tblG_at 735 (by decide +kernel) (by decide +kernel)
theorem mX6_79 : zKS RX6 79 yJ6_bitCount_0f7a4 cJ6_bitCount_0f7a4 1 (some .int) 1 := ⟨w735, w716, w89, w717, by decide, by decide, by decide, by decide +kernel⟩
theorem w509 : (Cond.methodLink "ButlerRemembers$Household" (85 : Nat) ({ cls := "ButlerRemembers$Household", name := "isOut", desc := "(I)Z" } : Jvm.MethodName)) ∈ tblG := tblG_at 509 (by decide +kernel) (by decide +kernel)
theorem mX6_85 : zKV RX6 85 6 yX6_isOut cX6_isOut 2 (some .boolean) 1 := ⟨⟨_, _, rfl⟩, w509, w498, w499, w69, w500, by decide, by decide, by decide, by decide +kernel⟩
theorem w510 : (Cond.methodLink "ButlerRemembers$Household" (88 : Nat) ({ cls := "ButlerRemembers$Household", name := "heldWithout", desc := "(I)I" } : Jvm.MethodName)) ∈ tblG := tblG_at 510 (by decide +kernel) (by decide +kernel)
theorem mX6_88 : zKV RX6 88 6 yX6_heldWithout cX6_heldWithout 4 (some .int) 1 := ⟨⟨_, _, rfl⟩, w510, w511, w512, w69, w513, by decide, by decide, by decide, by decide +kernel⟩
theorem w736 : (Cond.methodLink "ButlerRemembers$Household" (91 : Nat) ({ cls := "ButlerRemembers$Household", name := "heldByCrew", desc := "(I)I" } : Jvm.MethodName)) ∈ tblG := tblG_at 736 (by decide +kernel) (by decide +kernel)
theorem w737 : (Cond.instanceMethod ({ cls := "ButlerRemembers$Household", name := "heldByCrew", desc := "(I)I" } : Jvm.MethodName)) ∈ tblG := tblG_at 737 (by decide +kernel) (by decide +kernel)
theorem w738 : (Cond.selects "ButlerRemembers$Household" ({ cls := "ButlerRemembers$Household", name := "heldByCrew", desc := "(I)I" } : Jvm.MethodName) ({ cls := "ButlerRemembers$Household", name := "heldByCrew", desc := "(I)I" } : Jvm.MethodName)) ∈ tblG := tblG_at 738 (by decide +kernel) (by decide +kernel)
theorem w739 : (Cond.code ({ cls := "ButlerRemembers$Household", name := "heldByCrew", desc := "(I)I" } : Jvm.MethodName) prog_8_method_15_code (4 : Nat) (Option.some Jvm.ClassFile.FieldType.int)) ∈ tblG := tblG_at 739 (by decide +kernel) (by decide +kernel)
theorem mX6_91 : zKV RX6 91 6 yX6_heldByCrew cX6_heldByCrew 4 (some .int) 1 := ⟨⟨_, _, rfl⟩, w736, w737, w738, w69, w739, by decide, by decide, by decide, by decide +kernel⟩
theorem w744 : (Cond.methodLink "ButlerRemembers$Household" (94 : Nat) ({ cls := "ButlerRemembers$Household", name := "lostWith", desc := "(I)I" } : Jvm.MethodName)) ∈ tblG := tblG_at 744 (by decide +kernel) (by decide +kernel)
theorem mX6_94 : zKV RX6 94 6 yX6_lostWith cX6_lostWith 2 (some .int) 1 := ⟨⟨_, _, rfl⟩, w744, w506, w507, w69, w508, by decide, by decide, by decide, by decide +kernel⟩
theorem w856 : (Cond.methodLink "ButlerRemembers$Household" (97 : Nat) ({ cls := "ButlerRemembers$Household", name := "copyRow", desc := "([I[I)V" } : Jvm.MethodName)) ∈ tblG := tblG_at 856 (by decide +kernel) (by decide +kernel)
theorem w857 : (Cond.static ({ cls := "ButlerRemembers$Household", name := "copyRow", desc := "([I[I)V" } : Jvm.MethodName)) ∈ tblG := tblG_at 857 (by decide +kernel) (by decide +kernel)
theorem w858 : (Cond.code ({ cls := "ButlerRemembers$Household", name := "copyRow", desc := "([I[I)V" } : Jvm.MethodName) prog_8_method_20_code (2 : Nat) (Option.none : Option Jvm.ClassFile.FieldType)) ∈ tblG := tblG_at 858 (by decide +kernel) (by decide +kernel)
theorem mX6_97 : zKS RX6 97 yX6_copyRow cX6_copyRow 2 none 2 := ⟨w856, w857, w69, w858, by decide, by decide, by decide, by decide +kernel⟩
theorem w861 : (Cond.methodLink "ButlerRemembers$Household" (101 : Nat) ({ cls := "ButlerRemembers$Household", name := "copyTable", desc := "([[I[[I)V" } : Jvm.MethodName)) ∈ tblG := tblG_at 861 (by decide +kernel) (by decide +kernel)
theorem w862 : (Cond.static ({ cls := "ButlerRemembers$Household", name := "copyTable", desc := "([[I[[I)V" } : Jvm.MethodName)) ∈ tblG := tblG_at 862 (by decide +kernel) (by decide +kernel)
theorem w863 : (Cond.code ({ cls := "ButlerRemembers$Household", name := "copyTable", desc := "([[I[[I)V" } : Jvm.MethodName) prog_8_method_21_code (3 : Nat) (Option.none : Option Jvm.ClassFile.FieldType)) ∈ tblG := tblG_at 863 (by decide +kernel) (by decide +kernel)
theorem mX6_101 : zKS RX6 101 yX6_copyTable cX6_copyTable 3 none 2 := ⟨w861, w862, w69, w863, by decide, by decide, by decide, by decide +kernel⟩
theorem w859 : (Cond.methodLink "ButlerRemembers$Household" (105 : Nat) ({ cls := "java/lang/Math", name := "min", desc := "(II)I" } : Jvm.MethodName)) ∈ tblG := tblG_at 859 (by decide +kernel) (by decide +kernel)
theorem mX6_105 : zKS RX6 105 yJ9_min_7cf53 cJ9_min_7cf53 2 (some .int) 2 := ⟨w859, w531, w82, w532, by decide, by decide, by decide, by decide +kernel⟩
theorem w905 : (Cond.methodLink "ButlerRemembers$Master" (7 : Nat) ({ cls := "ButlerRemembers$Turn", name := "begin", desc := "(I)V" } : Jvm.MethodName)) ∈ tblG := tblG_at 905 (by decide +kernel) (by decide +kernel)
theorem mX7_7 : zKV RX7 7 10 yX10_begin cX10_begin 2 none 1 := ⟨⟨_, _, rfl⟩, w905, w884, w885, w78, w886, by decide, by decide, by decide, by decide +kernel⟩
theorem w929 : (Cond.methodLink "ButlerRemembers$Master" (17 : Nat) ({ cls := "ButlerRemembers$Master", name := "dines", desc := "(LButlerRemembers$Turn;I)I" } : Jvm.MethodName)) ∈ tblG := tblG_at 929 (by decide +kernel) (by decide +kernel)
theorem mX7_17_0 : zKU RX7 17 0 RX0 "ButlerRemembers$Master" ⟨"ButlerRemembers$Master", "dines", "(LButlerRemembers$Turn;I)I"⟩ yX0_dines cX0_dines 3 (some .int) 2 := ⟨⟨_, _, rfl⟩, w929, w879, w877, ⟨cX7_dines, 3, (some .int), w904⟩, w880, w881, w74, w882, by decide, by decide, by decide, by decide +kernel⟩
theorem mX7_17_1 : zKU RX7 17 1 RX1 "ButlerRemembers$Master" ⟨"ButlerRemembers$Master", "dines", "(LButlerRemembers$Turn;I)I"⟩ yX7_dines cX7_dines 3 (some .int) 2 := ⟨⟨_, _, rfl⟩, w929, w879, w877, ⟨cX7_dines, 3, (some .int), w904⟩, w890, w877, w70, w904, by decide, by decide, by decide, by decide +kernel⟩
theorem mX7_17_2 : zKU RX7 17 2 RX2 "ButlerRemembers$Master" ⟨"ButlerRemembers$Master", "dines", "(LButlerRemembers$Turn;I)I"⟩ yX3_dines cX3_dines 3 (some .int) 2 := ⟨⟨_, _, rfl⟩, w929, w879, w877, ⟨cX7_dines, 3, (some .int), w904⟩, w891, w892, w72, w893, by decide, by decide, by decide, by decide +kernel⟩
theorem mX7_17_3 : zKU RX7 17 3 RX3 "ButlerRemembers$Master" ⟨"ButlerRemembers$Master", "dines", "(LButlerRemembers$Turn;I)I"⟩ yX3_dines cX3_dines 3 (some .int) 2 := ⟨⟨_, _, rfl⟩, w929, w879, w877, ⟨cX7_dines, 3, (some .int), w904⟩, w896, w892, w72, w893, by decide, by decide, by decide, by decide +kernel⟩
theorem mX7_17_4 : zKU RX7 17 4 RX4 "ButlerRemembers$Master" ⟨"ButlerRemembers$Master", "dines", "(LButlerRemembers$Turn;I)I"⟩ yX7_dines cX7_dines 3 (some .int) 2 := ⟨⟨_, _, rfl⟩, w929, w879, w877, ⟨cX7_dines, 3, (some .int), w904⟩, w897, w877, w70, w904, by decide, by decide, by decide, by decide +kernel⟩
theorem mX7_17_7 : zKV RX7 17 7 yX7_dines cX7_dines 3 (some .int) 2 := ⟨⟨_, _, rfl⟩, w929, w877, w878, w70, w904, by decide, by decide, by decide, by decide +kernel⟩
theorem mX7_17_9 : zKU RX7 17 9 RX9 "ButlerRemembers$Master" ⟨"ButlerRemembers$Master", "dines", "(LButlerRemembers$Turn;I)I"⟩ yX9_dines cX9_dines 3 (some .int) 2 := ⟨⟨_, _, rfl⟩, w929, w879, w877, ⟨cX7_dines, 3, (some .int), w904⟩, w898, w899, w76, w900, by decide, by decide, by decide, by decide +kernel⟩
theorem w954 : (Cond.methodLink "ButlerRemembers$Master" (26 : Nat) ({ cls := "ButlerRemembers$Master", name := "nods", desc := "(LButlerRemembers$Turn;I)I" } : Jvm.MethodName)) ∈ tblG := tblG_at 954 (by decide +kernel) (by decide +kernel)
theorem mX7_26_0 : zKU RX7 26 0 RX0 "ButlerRemembers$Master" ⟨"ButlerRemembers$Master", "nods", "(LButlerRemembers$Turn;I)I"⟩ yX0_nods cX0_nods 3 (some .int) 2 := ⟨⟨_, _, rfl⟩, w954, w909, w907, ⟨cX7_nods, 3, (some .int), w928⟩, w910, w911, w74, w912, by decide, by decide, by decide, by decide +kernel⟩
theorem mX7_26_1 : zKU RX7 26 1 RX1 "ButlerRemembers$Master" ⟨"ButlerRemembers$Master", "nods", "(LButlerRemembers$Turn;I)I"⟩ yX7_nods cX7_nods 3 (some .int) 2 := ⟨⟨_, _, rfl⟩, w954, w909, w907, ⟨cX7_nods, 3, (some .int), w928⟩, w918, w907, w70, w928, by decide, by decide, by decide, by decide +kernel⟩
theorem mX7_26_2 : zKU RX7 26 2 RX2 "ButlerRemembers$Master" ⟨"ButlerRemembers$Master", "nods", "(LButlerRemembers$Turn;I)I"⟩ yX7_nods cX7_nods 3 (some .int) 2 := ⟨⟨_, _, rfl⟩, w954, w909, w907, ⟨cX7_nods, 3, (some .int), w928⟩, w919, w907, w70, w928, by decide, by decide, by decide, by decide +kernel⟩
theorem mX7_26_3 : zKU RX7 26 3 RX3 "ButlerRemembers$Master" ⟨"ButlerRemembers$Master", "nods", "(LButlerRemembers$Turn;I)I"⟩ yX7_nods cX7_nods 3 (some .int) 2 := ⟨⟨_, _, rfl⟩, w954, w909, w907, ⟨cX7_nods, 3, (some .int), w928⟩, w920, w907, w70, w928, by decide, by decide, by decide, by decide +kernel⟩
theorem mX7_26_4 : zKU RX7 26 4 RX4 "ButlerRemembers$Master" ⟨"ButlerRemembers$Master", "nods", "(LButlerRemembers$Turn;I)I"⟩ yX4_nods cX4_nods 3 (some .int) 2 := ⟨⟨_, _, rfl⟩, w954, w909, w907, ⟨cX7_nods, 3, (some .int), w928⟩, w921, w914, w71, w915, by decide, by decide, by decide, by decide +kernel⟩
theorem mX7_26_7 : zKV RX7 26 7 yX7_nods cX7_nods 3 (some .int) 2 := ⟨⟨_, _, rfl⟩, w954, w907, w908, w70, w928, by decide, by decide, by decide, by decide +kernel⟩
theorem mX7_26_9 : zKU RX7 26 9 RX9 "ButlerRemembers$Master" ⟨"ButlerRemembers$Master", "nods", "(LButlerRemembers$Turn;I)I"⟩ yX9_nods cX9_nods 3 (some .int) 2 := ⟨⟨_, _, rfl⟩, w954, w909, w907, ⟨cX7_nods, 3, (some .int), w928⟩, w922, w923, w76, w924, by decide, by decide, by decide, by decide +kernel⟩
theorem w983 : (Cond.methodLink "ButlerRemembers$Tape" (22 : Nat) ({ cls := "java/util/Arrays", name := "fill", desc := "([JJ)V" } : Jvm.MethodName)) ∈ tblG := tblG_at 983 (by decide +kernel) (by decide +kernel)
theorem w984 : (Cond.static ({ cls := "java/util/Arrays", name := "fill", desc := "([JJ)V" } : Jvm.MethodName)) ∈ tblG := tblG_at 984 (by decide +kernel) (by decide +kernel)
theorem w985 : (Cond.code ({ cls := "java/util/Arrays", name := "fill", desc := "([JJ)V" } : Jvm.MethodName) prog_22_method_101_code (5 : Nat) (Option.none : Option Jvm.ClassFile.FieldType)) ∈ tblG := tblG_at 985 (by decide +kernel) (by decide +kernel)
theorem mX8_22 : zKS RX8 22 yJ7_fill_d0a16 cJ7_fill_d0a16 5 none 2 := ⟨w983, w984, w81, w985, by decide, by decide, by decide, by decide +kernel⟩
theorem w847 : (Cond.methodLink "ButlerRemembers$Tape" (28 : Nat) ({ cls := "ButlerRemembers$Tape", name := "holdsRow", desc := "()Z" } : Jvm.MethodName)) ∈ tblG := tblG_at 847 (by decide +kernel) (by decide +kernel)
theorem mX8_28 : zKV RX8 28 8 yX8_holdsRow cX8_holdsRow 1 (some .boolean) 0 := ⟨⟨_, _, rfl⟩, w847, w840, w841, w79, w842, by decide, by decide, by decide, by decide +kernel⟩
theorem w449 : (Cond.methodLink "ButlerRemembers$Told" (7 : Nat) ({ cls := "ButlerRemembers$Cousin", name := "firmness", desc := "(IIIII)I" } : Jvm.MethodName)) ∈ tblG := tblG_at 449 (by decide +kernel) (by decide +kernel)
theorem w1430 : (Cond.sameMethod "ButlerRemembers$Cousin" "ButlerRemembers$Cousin" "firmness" "(IIIII)I") ∈ tblG := tblG_at 1430 (by decide +kernel) (by decide +kernel)
theorem w233 : (Cond.superclass "ButlerRemembers$Told" "ButlerRemembers$Cousin") ∈ tblG := tblG_at 233 (by decide +kernel) (by decide +kernel)
theorem mX9_7 : zKP RX9 7 ⟨"ButlerRemembers$Cousin", "firmness", "(IIIII)I"⟩ yX1_firmness cX1_firmness 6 (some .int) 5 := ⟨w449, w1430, w233, Or.inl rfl, rfl, w434, w73, w435, by decide, by decide, by decide +kernel⟩
theorem w901 : (Cond.methodLink "ButlerRemembers$Told" (11 : Nat) ({ cls := "ButlerRemembers$Turn", name := "begin", desc := "(I)V" } : Jvm.MethodName)) ∈ tblG := tblG_at 901 (by decide +kernel) (by decide +kernel)
theorem mX9_11 : zKV RX9 11 10 yX10_begin cX10_begin 2 none 1 := ⟨⟨_, _, rfl⟩, w901, w884, w885, w78, w886, by decide, by decide, by decide, by decide +kernel⟩
theorem w925 : (Cond.methodLink "ButlerRemembers$Told" (17 : Nat) ({ cls := "ButlerRemembers$Cousin", name := "nods", desc := "(LButlerRemembers$Turn;I)I" } : Jvm.MethodName)) ∈ tblG := tblG_at 925 (by decide +kernel) (by decide +kernel)
theorem mX9_17 : zKP RX9 17 ⟨"ButlerRemembers$Cousin", "nods", "(LButlerRemembers$Turn;I)I"⟩ yX7_nods cX7_nods 3 (some .int) 2 := ⟨w925, w926, w233, Or.inr (w212), rfl, w907, w70, w928, by decide, by decide, by decide +kernel⟩
theorem w902 : (Cond.methodLink "ButlerRemembers$Told" (21 : Nat) ({ cls := "ButlerRemembers$Cousin", name := "dines", desc := "(LButlerRemembers$Turn;I)I" } : Jvm.MethodName)) ∈ tblG := tblG_at 902 (by decide +kernel) (by decide +kernel)
theorem w903 : (Cond.sameMethod "ButlerRemembers$Cousin" "ButlerRemembers$Master" "dines" "(LButlerRemembers$Turn;I)I") ∈ tblG := tblG_at 903 (by decide +kernel) (by decide +kernel)
theorem mX9_21 : zKP RX9 21 ⟨"ButlerRemembers$Cousin", "dines", "(LButlerRemembers$Turn;I)I"⟩ yX7_dines cX7_dines 3 (some .int) 2 := ⟨w902, w903, w233, Or.inr (w212), rfl, w877, w70, w904, by decide, by decide, by decide +kernel⟩
