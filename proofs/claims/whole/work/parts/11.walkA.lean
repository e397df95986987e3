def fX7_firmness (N : Nat) (h : AH) (a0 : Nat) (x1 : Int32) (x2 : Int32) (x3 : Int32) (x4 : Int32) (x5 : Int32) : Option (Int32 × AH) :=
  some (x1, h)
theorem kX7_firmness {l : Launch} {g : zG} (N : Nat) (h : AH) (a0 : Nat) (x1 : Int32) (x2 : Int32) (x3 : Int32) (x4 : Int32) (x5 : Int32) : zM l g yX7_firmness cX7_firmness 6 (some .int) (1) 0 0 (fun v : Int32 => some (.int v)) (fX7_firmness N h a0 x1 x2 x3 x4 x5) h [.ref a0, .int x1, .int x2, .int x3, .int x4, .int x5] := by
  refine zM.of (lv0 := [(0, .ref a0), (1, .int x1), (2, .int x2), (3, .int x3), (4, .int x4), (5, .int x5)]) (by decide) (Nat.le_of_ble_eq_true rfl) rfl (fun X hX C => ?_)
  subst hX
  unfold fX7_firmness
  refine z_iload_n C 1 dX7_firmness_0 rfl ?_
  exact z_ireturn C ⟨rfl, rfl⟩ dX7_firmness_1
def fX4_firmness (N : Nat) (h : AH) (a0 : Nat) (x1 : Int32) (x2 : Int32) (x3 : Int32) (x4 : Int32) (x5 : Int32) : Option (Int32 × AH) :=
  (zkind h a0).bind fun _ =>
  zcall (fX7_firmness N h a0 x1 x2 x3 x4 x5) fun v_2 h_1 =>
  (if x4 ≤ x2 then
  some (v_2 + (0 : Int32), h_1)
  else
  some (v_2 + (2 : Int32), h_1))
theorem kX4_firmness {l : Launch} {g : zG} (N : Nat) (h : AH) (a0 : Nat) (x1 : Int32) (x2 : Int32) (x3 : Int32) (x4 : Int32) (x5 : Int32) : zM l g yX4_firmness cX4_firmness 6 (some .int) (2) 0 0 (fun v : Int32 => some (.int v)) (fX4_firmness N h a0 x1 x2 x3 x4 x5) h [.ref a0, .int x1, .int x2, .int x3, .int x4, .int x5] := by
  refine zM.of (lv0 := [(0, .ref a0), (1, .int x1), (2, .int x2), (3, .int x3), (4, .int x4), (5, .int x5)]) (by decide) (Nat.le_of_ble_eq_true rfl) rfl (fun X hX C => ?_)
  subst hX
  unfold fX4_firmness
  refine z_aload_n C 0 dX4_firmness_0 rfl ?_
  refine z_iload_n C 1 dX4_firmness_1 rfl ?_
  refine z_iload_n C 2 dX4_firmness_2 rfl ?_
  refine z_iload_n C 3 dX4_firmness_3 rfl ?_
  refine z_iload C 4 dX4_firmness_4 rfl ?_
  refine z_iload C 5 dX4_firmness_6 rfl ?_
  refine z_bind (fun _ q_3 => ?_)
  refine z_calli (z_runP (As := [.int x1, .int x2, .int x3, .int x4, .int x5]) (rest := []) C mX4_7 (kX7_firmness N h a0 x1 x2 x3 x4 x5) q_3 (Nat.le_of_ble_eq_true rfl) ⟨Nat.zero_le _, Nat.zero_le _⟩ dX4_firmness_8 rfl rfl (Nat.le_of_ble_eq_true rfl)) rfl (fun v_2 h_1 => ?_)
  refine z_iload_n C 2 dX4_firmness_11 rfl ?_
  refine z_iload C 4 dX4_firmness_12 rfl ?_
  refine z_icmpge C 21 dX4_firmness_14 rfl ?_ ?_
  · refine z_iconst (v := (0 : Int32)) C dX4_firmness_21 rfl ?_
    refine z_iadd C dX4_firmness_22 ?_
    exact z_ireturn C ⟨rfl, rfl⟩ dX4_firmness_23
  · refine z_iconst (v := (2 : Int32)) C dX4_firmness_17 rfl ?_
    refine z_goto C 22 dX4_firmness_18 rfl ?_
    refine z_iadd C dX4_firmness_22 ?_
    exact z_ireturn C ⟨rfl, rfl⟩ dX4_firmness_23
def fX0_firmness (N : Nat) (h : AH) (a0 : Nat) (x1 : Int32) (x2 : Int32) (x3 : Int32) (x4 : Int32) (x5 : Int32) : Option (Int32 × AH) :=
  (if x2 = (x4 - x4 / (8 : Int32) * (8 : Int32)) then
  some ((0 : Int32), h)
  else
  (zkind h a0).bind fun _ =>
  zcall (fX4_firmness N h a0 x1 x2 x3 x4 x5) fun v_2 h_1 =>
  some (v_2, h_1))
theorem kX0_firmness {l : Launch} {g : zG} (N : Nat) (h : AH) (a0 : Nat) (x1 : Int32) (x2 : Int32) (x3 : Int32) (x4 : Int32) (x5 : Int32) : zM l g yX0_firmness cX0_firmness 6 (some .int) (3) 0 0 (fun v : Int32 => some (.int v)) (fX0_firmness N h a0 x1 x2 x3 x4 x5) h [.ref a0, .int x1, .int x2, .int x3, .int x4, .int x5] := by
  refine zM.of (lv0 := [(0, .ref a0), (1, .int x1), (2, .int x2), (3, .int x3), (4, .int x4), (5, .int x5)]) (by decide) (Nat.le_of_ble_eq_true rfl) rfl (fun X hX C => ?_)
  subst hX
  unfold fX0_firmness
  refine z_iload_n C 2 dX0_firmness_0 rfl ?_
  refine z_iload C 4 dX0_firmness_1 rfl ?_
  refine z_bipush (v := (8 : Int32)) C dX0_firmness_3 rfl ?_
  refine z_irem C dX0_firmness_5 (by decide) ?_
  refine z_icmpne C 13 dX0_firmness_6 rfl ?_ ?_
  · refine z_aload_n C 0 dX0_firmness_13 rfl ?_
    refine z_iload_n C 1 dX0_firmness_14 rfl ?_
    refine z_iload_n C 2 dX0_firmness_15 rfl ?_
    refine z_iload_n C 3 dX0_firmness_16 rfl ?_
    refine z_iload C 4 dX0_firmness_17 rfl ?_
    refine z_iload C 5 dX0_firmness_19 rfl ?_
    refine z_bind (fun _ q_3 => ?_)
    refine z_calli (z_runP (As := [.int x1, .int x2, .int x3, .int x4, .int x5]) (rest := []) C mX0_9 (kX4_firmness N h a0 x1 x2 x3 x4 x5) q_3 (Nat.le_of_ble_eq_true rfl) ⟨Nat.zero_le _, Nat.zero_le _⟩ dX0_firmness_21 rfl rfl (Nat.le_of_ble_eq_true rfl)) rfl (fun v_2 h_1 => ?_)
    exact z_ireturn C ⟨rfl, rfl⟩ dX0_firmness_24
  · refine z_iconst (v := (0 : Int32)) C dX0_firmness_9 rfl ?_
    refine z_goto C 24 dX0_firmness_10 rfl ?_
    exact z_ireturn C ⟨rfl, rfl⟩ dX0_firmness_24
def fX10_begin (N : Nat) (h : AH) (a0 : Nat) (x1 : Int32) : Option (Unit × AH) :=
  (zgI h a0 10 2).bind fun v_1 =>
  (if (20 : Int32) ≤ v_1 then
  (zgI h a0 10 2).bind fun v_2 =>
  (zput h a0 10 2 (.int (v_2 + (1 : Int32)))).bind fun h_3 =>
  some ((), h_3)
  else
  (zgR h a0 10 3).bind fun a_4 =>
  (zgI h a0 10 2).bind fun v_5 =>
  (zast 0 h a_4 v_5 x1).bind fun h_6 =>
  (zgI h_6 a0 10 2).bind fun v_7 =>
  (zput h_6 a0 10 2 (.int (v_7 + (1 : Int32)))).bind fun h_8 =>
  some ((), h_8))
theorem kX10_begin {l : Launch} {g : zG} (N : Nat) (h : AH) (a0 : Nat) (x1 : Int32) : zM l g yX10_begin cX10_begin 2 none (1) 0 0 (fun _ : Unit => none) (fX10_begin N h a0 x1) h [.ref a0, .int x1] := by
  refine zM.of (lv0 := [(0, .ref a0), (1, .int x1)]) (by decide) (Nat.le_of_ble_eq_true rfl) rfl (fun X hX C => ?_)
  subst hX
  unfold fX10_begin
  refine z_aload_n C 0 dX10_begin_0 rfl ?_
  refine z_getI C qX10_16 dX10_begin_1 (fun v_1 => ?_)
  refine z_bipush (v := (20 : Int32)) C dX10_begin_4 rfl ?_
  refine z_icmpge C 19 dX10_begin_6 rfl ?_ ?_
  · refine z_aload_n C 0 dX10_begin_19 rfl ?_
    refine z_dup C dX10_begin_20 rfl ?_
    refine z_getI C qX10_16 dX10_begin_21 (fun v_2 => ?_)
    refine z_iconst (v := (1 : Int32)) C dX10_begin_24 rfl ?_
    refine z_iadd C dX10_begin_25 ?_
    refine z_putI C pX10_16 dX10_begin_26 (fun h_3 => ?_)
    exact z_return C ⟨rfl, rfl⟩ dX10_begin_29
  · refine z_aload_n C 0 dX10_begin_9 rfl ?_
    refine z_getR C qX10_19 dX10_begin_10 (fun a_4 => ?_)
    refine z_aload_n C 0 dX10_begin_13 rfl ?_
    refine z_getI C qX10_16 dX10_begin_14 (fun v_5 => ?_)
    refine z_iload_n C 1 dX10_begin_17 rfl ?_
    refine z_iastore C dX10_begin_18 (fun h_6 => ?_)
    refine z_aload_n C 0 dX10_begin_19 rfl ?_
    refine z_dup C dX10_begin_20 rfl ?_
    refine z_getI C qX10_16 dX10_begin_21 (fun v_7 => ?_)
    refine z_iconst (v := (1 : Int32)) C dX10_begin_24 rfl ?_
    refine z_iadd C dX10_begin_25 ?_
    refine z_putI C pX10_16 dX10_begin_26 (fun h_8 => ?_)
    exact z_return C ⟨rfl, rfl⟩ dX10_begin_29
def fX7_dines (N : Nat) (h : AH) (a0 : Nat) (a1 : Nat) (x2 : Int32) : Option (Int32 × AH) :=
  (zis h a1 10).bind fun _ =>
  zcall (fX10_begin N h a1 (10 : Int32)) fun _ h_1 =>
  (zgI h_1 a1 10 0).bind fun v_3 =>
  some (x2 + v_3, h_1)
theorem kX7_dines {l : Launch} {g : zG} (N : Nat) (h : AH) (a0 : Nat) (a1 : Nat) (x2 : Int32) : zM l g yX7_dines cX7_dines 3 (some .int) (2) 0 0 (fun v : Int32 => some (.int v)) (fX7_dines N h a0 a1 x2) h [.ref a0, .ref a1, .int x2] := by
  refine zM.of (lv0 := [(0, .ref a0), (1, .ref a1), (2, .int x2)]) (by decide) (Nat.le_of_ble_eq_true rfl) rfl (fun X hX C => ?_)
  subst hX
  unfold fX7_dines
  refine z_aload_n C 1 dX7_dines_0 rfl ?_
  refine z_bipush (v := (10 : Int32)) C dX7_dines_1 rfl ?_
  refine z_bind (fun _ q_2 => ?_)
  refine z_callv (z_runV (As := [.int (10 : Int32)]) (rest := []) C mX7_7 (kX10_begin N h a1 (10 : Int32)) q_2 (Nat.le_of_ble_eq_true rfl) ⟨Nat.zero_le _, Nat.zero_le _⟩ dX7_dines_3 rfl rfl (Nat.le_of_ble_eq_true rfl)) rfl (fun _ h_1 => ?_)
  refine z_iload_n C 2 dX7_dines_6 rfl ?_
  refine z_aload_n C 1 dX7_dines_7 rfl ?_
  refine z_getI C qX7_13 dX7_dines_8 (fun v_3 => ?_)
  refine z_iadd C dX7_dines_11 ?_
  exact z_ireturn C ⟨rfl, rfl⟩ dX7_dines_12
def fX0_dines (N : Nat) (h : AH) (a0 : Nat) (a1 : Nat) (x2 : Int32) : Option (Int32 × AH) :=
  (zis h a1 10).bind fun _ =>
  zcall (fX10_begin N h a1 (50 : Int32)) fun _ h_1 =>
  (zkind h_1 a0).bind fun _ =>
  zcall (fX7_dines N h_1 a0 a1 x2) fun v_4 h_3 =>
  some (-v_4, h_3)
theorem kX0_dines {l : Launch} {g : zG} (N : Nat) (h : AH) (a0 : Nat) (a1 : Nat) (x2 : Int32) : zM l g yX0_dines cX0_dines 3 (some .int) (3) 0 0 (fun v : Int32 => some (.int v)) (fX0_dines N h a0 a1 x2) h [.ref a0, .ref a1, .int x2] := by
  refine zM.of (lv0 := [(0, .ref a0), (1, .ref a1), (2, .int x2)]) (by decide) (Nat.le_of_ble_eq_true rfl) rfl (fun X hX C => ?_)
  subst hX
  unfold fX0_dines
  refine z_aload_n C 1 dX0_dines_0 rfl ?_
  refine z_bipush (v := (50 : Int32)) C dX0_dines_1 rfl ?_
  refine z_bind (fun _ q_2 => ?_)
  refine z_callv (z_runV (As := [.int (50 : Int32)]) (rest := []) C mX0_13 (kX10_begin N h a1 (50 : Int32)) q_2 (Nat.le_of_ble_eq_true rfl) ⟨Nat.zero_le _, Nat.zero_le _⟩ dX0_dines_3 rfl rfl (Nat.le_of_ble_eq_true rfl)) rfl (fun _ h_1 => ?_)
  refine z_aload_n C 0 dX0_dines_6 rfl ?_
  refine z_aload_n C 1 dX0_dines_7 rfl ?_
  refine z_iload_n C 2 dX0_dines_8 rfl ?_
  refine z_bind (fun _ q_5 => ?_)
  refine z_calli (z_runP (As := [.ref a1, .int x2]) (rest := []) C mX0_19 (kX7_dines N h_1 a0 a1 x2) q_5 (Nat.le_of_ble_eq_true rfl) ⟨Nat.zero_le _, Nat.zero_le _⟩ dX0_dines_9 rfl rfl (Nat.le_of_ble_eq_true rfl)) rfl (fun v_4 h_3 => ?_)
  refine z_ineg C dX0_dines_12 ?_
  exact z_ireturn C ⟨rfl, rfl⟩ dX0_dines_13
def fX3_dines (N : Nat) (h : AH) (a0 : Nat) (a1 : Nat) (x2 : Int32) : Option (Int32 × AH) :=
  (zis h a1 10).bind fun _ =>
  zcall (fX10_begin N h a1 (30 : Int32)) fun _ h_1 =>
  (zkind h_1 a0).bind fun _ =>
  zcall (fX7_dines N h_1 a0 a1 (x2 * (3 : Int32))) fun v_4 h_3 =>
  some (v_4, h_3)
theorem kX3_dines {l : Launch} {g : zG} (N : Nat) (h : AH) (a0 : Nat) (a1 : Nat) (x2 : Int32) : zM l g yX3_dines cX3_dines 3 (some .int) (3) 0 0 (fun v : Int32 => some (.int v)) (fX3_dines N h a0 a1 x2) h [.ref a0, .ref a1, .int x2] := by
  refine zM.of (lv0 := [(0, .ref a0), (1, .ref a1), (2, .int x2)]) (by decide) (Nat.le_of_ble_eq_true rfl) rfl (fun X hX C => ?_)
  subst hX
  unfold fX3_dines
  refine z_aload_n C 1 dX3_dines_0 rfl ?_
  refine z_bipush (v := (30 : Int32)) C dX3_dines_1 rfl ?_
  refine z_bind (fun _ q_2 => ?_)
  refine z_callv (z_runV (As := [.int (30 : Int32)]) (rest := []) C mX3_11 (kX10_begin N h a1 (30 : Int32)) q_2 (Nat.le_of_ble_eq_true rfl) ⟨Nat.zero_le _, Nat.zero_le _⟩ dX3_dines_3 rfl rfl (Nat.le_of_ble_eq_true rfl)) rfl (fun _ h_1 => ?_)
  refine z_aload_n C 0 dX3_dines_6 rfl ?_
  refine z_aload_n C 1 dX3_dines_7 rfl ?_
  refine z_iload_n C 2 dX3_dines_8 rfl ?_
  refine z_iconst (v := (3 : Int32)) C dX3_dines_9 rfl ?_
  refine z_imul C dX3_dines_10 ?_
  refine z_bind (fun _ q_5 => ?_)
  refine z_calli (z_runP (As := [.ref a1, .int (x2 * (3 : Int32))]) (rest := []) C mX3_17 (kX7_dines N h_1 a0 a1 (x2 * (3 : Int32))) q_5 (Nat.le_of_ble_eq_true rfl) ⟨Nat.zero_le _, Nat.zero_le _⟩ dX3_dines_11 rfl rfl (Nat.le_of_ble_eq_true rfl)) rfl (fun v_4 h_3 => ?_)
  exact z_ireturn C ⟨rfl, rfl⟩ dX3_dines_14
def fX9_dines (N : Nat) (h : AH) (a0 : Nat) (a1 : Nat) (x2 : Int32) : Option (Int32 × AH) :=
  (zis h a1 10).bind fun _ =>
  zcall (fX10_begin N h a1 (71 : Int32)) fun _ h_1 =>
  (zkind h_1 a0).bind fun _ =>
  zcall (fX7_dines N h_1 a0 a1 x2) fun v_4 h_3 =>
  (zgI h_3 a1 10 1).bind fun v_6 =>
  some (v_4 ^^^ v_6, h_3)
theorem kX9_dines {l : Launch} {g : zG} (N : Nat) (h : AH) (a0 : Nat) (a1 : Nat) (x2 : Int32) : zM l g yX9_dines cX9_dines 3 (some .int) (3) 0 0 (fun v : Int32 => some (.int v)) (fX9_dines N h a0 a1 x2) h [.ref a0, .ref a1, .int x2] := by
  refine zM.of (lv0 := [(0, .ref a0), (1, .ref a1), (2, .int x2)]) (by decide) (Nat.le_of_ble_eq_true rfl) rfl (fun X hX C => ?_)
  subst hX
  unfold fX9_dines
  refine z_aload_n C 1 dX9_dines_0 rfl ?_
  refine z_bipush (v := (71 : Int32)) C dX9_dines_1 rfl ?_
  refine z_bind (fun _ q_2 => ?_)
  refine z_callv (z_runV (As := [.int (71 : Int32)]) (rest := []) C mX9_11 (kX10_begin N h a1 (71 : Int32)) q_2 (Nat.le_of_ble_eq_true rfl) ⟨Nat.zero_le _, Nat.zero_le _⟩ dX9_dines_3 rfl rfl (Nat.le_of_ble_eq_true rfl)) rfl (fun _ h_1 => ?_)
  refine z_aload_n C 0 dX9_dines_6 rfl ?_
  refine z_aload_n C 1 dX9_dines_7 rfl ?_
  refine z_iload_n C 2 dX9_dines_8 rfl ?_
  refine z_bind (fun _ q_5 => ?_)
  refine z_calli (z_runP (As := [.ref a1, .int x2]) (rest := []) C mX9_21 (kX7_dines N h_1 a0 a1 x2) q_5 (Nat.le_of_ble_eq_true rfl) ⟨Nat.zero_le _, Nat.zero_le _⟩ dX9_dines_9 rfl rfl (Nat.le_of_ble_eq_true rfl)) rfl (fun v_4 h_3 => ?_)
  refine z_aload_n C 1 dX9_dines_12 rfl ?_
  refine z_getI C qX9_24 dX9_dines_13 (fun v_6 => ?_)
  refine z_ixor C dX9_dines_16 ?_
  exact z_ireturn C ⟨rfl, rfl⟩ dX9_dines_17
def fX7_nods (N : Nat) (h : AH) (a0 : Nat) (a1 : Nat) (x2 : Int32) : Option (Int32 × AH) :=
  (zis h a1 10).bind fun _ =>
  zcall (fX10_begin N h a1 (11 : Int32)) fun _ h_1 =>
  zcall ((zkind h_1 a0).bind fun k_5 => if k_5 = 0 then fX0_dines N h_1 a0 a1 x2 else if k_5 = 1 then fX7_dines N h_1 a0 a1 x2 else if k_5 = 2 then fX3_dines N h_1 a0 a1 x2 else if k_5 = 3 then fX3_dines N h_1 a0 a1 x2 else if k_5 = 4 then fX7_dines N h_1 a0 a1 x2 else if k_5 = 7 then fX7_dines N h_1 a0 a1 x2 else if k_5 = 9 then fX9_dines N h_1 a0 a1 x2 else none) fun v_4 h_3 =>
  (zgI h_3 a1 10 1).bind fun v_7 =>
  some (v_4 - v_7, h_3)
theorem kX7_nods {l : Launch} {g : zG} (N : Nat) (h : AH) (a0 : Nat) (a1 : Nat) (x2 : Int32) : zM l g yX7_nods cX7_nods 3 (some .int) (4) 0 0 (fun v : Int32 => some (.int v)) (fX7_nods N h a0 a1 x2) h [.ref a0, .ref a1, .int x2] := by
  refine zM.of (lv0 := [(0, .ref a0), (1, .ref a1), (2, .int x2)]) (by decide) (Nat.le_of_ble_eq_true rfl) rfl (fun X hX C => ?_)
  subst hX
  unfold fX7_nods
  refine z_aload_n C 1 dX7_nods_0 rfl ?_
  refine z_bipush (v := (11 : Int32)) C dX7_nods_1 rfl ?_
  refine z_bind (fun _ q_2 => ?_)
  refine z_callv (z_runV (As := [.int (11 : Int32)]) (rest := []) C mX7_7 (kX10_begin N h a1 (11 : Int32)) q_2 (Nat.le_of_ble_eq_true rfl) ⟨Nat.zero_le _, Nat.zero_le _⟩ dX7_nods_3 rfl rfl (Nat.le_of_ble_eq_true rfl)) rfl (fun _ h_1 => ?_)
  refine z_aload_n C 0 dX7_nods_6 rfl ?_
  refine z_aload_n C 1 dX7_nods_7 rfl ?_
  refine z_iload_n C 2 dX7_nods_8 rfl ?_
  refine z_calli (zRun_bind (fun k_5 q_6 => zRun_ite (fun q0 => z_runU (As := [.ref a1, .int x2]) (rest := []) C mX7_17_0 (kX0_dines N h_1 a0 a1 x2) (zis_of_kind (q0 ▸ q_6)) (Nat.le_of_ble_eq_true rfl) ⟨Nat.zero_le _, Nat.zero_le _⟩ dX7_nods_9 rfl rfl (Nat.le_of_ble_eq_true rfl)) (fun _ => zRun_ite (fun q0 => z_runU (As := [.ref a1, .int x2]) (rest := []) C mX7_17_1 (kX7_dines N h_1 a0 a1 x2) (zis_of_kind (q0 ▸ q_6)) (Nat.le_of_ble_eq_true rfl) ⟨Nat.zero_le _, Nat.zero_le _⟩ dX7_nods_9 rfl rfl (Nat.le_of_ble_eq_true rfl)) (fun _ => zRun_ite (fun q0 => z_runU (As := [.ref a1, .int x2]) (rest := []) C mX7_17_2 (kX3_dines N h_1 a0 a1 x2) (zis_of_kind (q0 ▸ q_6)) (Nat.le_of_ble_eq_true rfl) ⟨Nat.zero_le _, Nat.zero_le _⟩ dX7_nods_9 rfl rfl (Nat.le_of_ble_eq_true rfl)) (fun _ => zRun_ite (fun q0 => z_runU (As := [.ref a1, .int x2]) (rest := []) C mX7_17_3 (kX3_dines N h_1 a0 a1 x2) (zis_of_kind (q0 ▸ q_6)) (Nat.le_of_ble_eq_true rfl) ⟨Nat.zero_le _, Nat.zero_le _⟩ dX7_nods_9 rfl rfl (Nat.le_of_ble_eq_true rfl)) (fun _ => zRun_ite (fun q0 => z_runU (As := [.ref a1, .int x2]) (rest := []) C mX7_17_4 (kX7_dines N h_1 a0 a1 x2) (zis_of_kind (q0 ▸ q_6)) (Nat.le_of_ble_eq_true rfl) ⟨Nat.zero_le _, Nat.zero_le _⟩ dX7_nods_9 rfl rfl (Nat.le_of_ble_eq_true rfl)) (fun _ => zRun_ite (fun q0 => z_runV (As := [.ref a1, .int x2]) (rest := []) C mX7_17_7 (kX7_dines N h_1 a0 a1 x2) (zis_of_kind (q0 ▸ q_6)) (Nat.le_of_ble_eq_true rfl) ⟨Nat.zero_le _, Nat.zero_le _⟩ dX7_nods_9 rfl rfl (Nat.le_of_ble_eq_true rfl)) (fun _ => zRun_ite (fun q0 => z_runU (As := [.ref a1, .int x2]) (rest := []) C mX7_17_9 (kX9_dines N h_1 a0 a1 x2) (zis_of_kind (q0 ▸ q_6)) (Nat.le_of_ble_eq_true rfl) ⟨Nat.zero_le _, Nat.zero_le _⟩ dX7_nods_9 rfl rfl (Nat.le_of_ble_eq_true rfl)) (fun _ => zRun_none))))))))) rfl (fun v_4 h_3 => ?_)
  refine z_aload_n C 1 dX7_nods_12 rfl ?_
  refine z_getI C qX7_23 dX7_nods_13 (fun v_7 => ?_)
  refine z_isub C dX7_nods_16 ?_
  exact z_ireturn C ⟨rfl, rfl⟩ dX7_nods_17
def fX4_nods (N : Nat) (h : AH) (a0 : Nat) (a1 : Nat) (x2 : Int32) : Option (Int32 × AH) :=
  (zis h a1 10).bind fun _ =>
  zcall (fX10_begin N h a1 (20 : Int32)) fun _ h_1 =>
  (zkind h_1 a0).bind fun _ =>
  zcall (fX7_nods N h_1 a0 a1 x2) fun v_4 h_3 =>
  some (v_4 ^^^ (6 : Int32), h_3)
theorem kX4_nods {l : Launch} {g : zG} (N : Nat) (h : AH) (a0 : Nat) (a1 : Nat) (x2 : Int32) : zM l g yX4_nods cX4_nods 3 (some .int) (5) 0 0 (fun v : Int32 => some (.int v)) (fX4_nods N h a0 a1 x2) h [.ref a0, .ref a1, .int x2] := by
  refine zM.of (lv0 := [(0, .ref a0), (1, .ref a1), (2, .int x2)]) (by decide) (Nat.le_of_ble_eq_true rfl) rfl (fun X hX C => ?_)
  subst hX
  unfold fX4_nods
  refine z_aload_n C 1 dX4_nods_0 rfl ?_
  refine z_bipush (v := (20 : Int32)) C dX4_nods_1 rfl ?_
  refine z_bind (fun _ q_2 => ?_)
  refine z_callv (z_runV (As := [.int (20 : Int32)]) (rest := []) C mX4_11 (kX10_begin N h a1 (20 : Int32)) q_2 (Nat.le_of_ble_eq_true rfl) ⟨Nat.zero_le _, Nat.zero_le _⟩ dX4_nods_3 rfl rfl (Nat.le_of_ble_eq_true rfl)) rfl (fun _ h_1 => ?_)
  refine z_aload_n C 0 dX4_nods_6 rfl ?_
  refine z_aload_n C 1 dX4_nods_7 rfl ?_
  refine z_iload_n C 2 dX4_nods_8 rfl ?_
  refine z_bind (fun _ q_5 => ?_)
  refine z_calli (z_runP (As := [.ref a1, .int x2]) (rest := []) C mX4_17 (kX7_nods N h_1 a0 a1 x2) q_5 (Nat.le_of_ble_eq_true rfl) ⟨Nat.zero_le _, Nat.zero_le _⟩ dX4_nods_9 rfl rfl (Nat.le_of_ble_eq_true rfl)) rfl (fun v_4 h_3 => ?_)
  refine z_bipush (v := (6 : Int32)) C dX4_nods_12 rfl ?_
  refine z_ixor C dX4_nods_14 ?_
  exact z_ireturn C ⟨rfl, rfl⟩ dX4_nods_15
def fX0_nods (N : Nat) (h : AH) (a0 : Nat) (a1 : Nat) (x2 : Int32) : Option (Int32 × AH) :=
  (zis h a1 10).bind fun _ =>
  zcall (fX10_begin N h a1 (51 : Int32)) fun _ h_1 =>
  (zkind h_1 a0).bind fun _ =>
  zcall (fX4_nods N h_1 a0 a1 (x2 + (1 : Int32))) fun v_4 h_3 =>
  some (v_4, h_3)
theorem kX0_nods {l : Launch} {g : zG} (N : Nat) (h : AH) (a0 : Nat) (a1 : Nat) (x2 : Int32) : zM l g yX0_nods cX0_nods 3 (some .int) (6) 0 0 (fun v : Int32 => some (.int v)) (fX0_nods N h a0 a1 x2) h [.ref a0, .ref a1, .int x2] := by
  refine zM.of (lv0 := [(0, .ref a0), (1, .ref a1), (2, .int x2)]) (by decide) (Nat.le_of_ble_eq_true rfl) rfl (fun X hX C => ?_)
  subst hX
  unfold fX0_nods
  refine z_aload_n C 1 dX0_nods_0 rfl ?_
  refine z_bipush (v := (51 : Int32)) C dX0_nods_1 rfl ?_
  refine z_bind (fun _ q_2 => ?_)
  refine z_callv (z_runV (As := [.int (51 : Int32)]) (rest := []) C mX0_13 (kX10_begin N h a1 (51 : Int32)) q_2 (Nat.le_of_ble_eq_true rfl) ⟨Nat.zero_le _, Nat.zero_le _⟩ dX0_nods_3 rfl rfl (Nat.le_of_ble_eq_true rfl)) rfl (fun _ h_1 => ?_)
  refine z_aload_n C 0 dX0_nods_6 rfl ?_
  refine z_aload_n C 1 dX0_nods_7 rfl ?_
  refine z_iload_n C 2 dX0_nods_8 rfl ?_
  refine z_iconst (v := (1 : Int32)) C dX0_nods_9 rfl ?_
  refine z_iadd C dX0_nods_10 ?_
  refine z_bind (fun _ q_5 => ?_)
  refine z_calli (z_runP (As := [.ref a1, .int (x2 + (1 : Int32))]) (rest := []) C mX0_23 (kX4_nods N h_1 a0 a1 (x2 + (1 : Int32))) q_5 (Nat.le_of_ble_eq_true rfl) ⟨Nat.zero_le _, Nat.zero_le _⟩ dX0_nods_11 rfl rfl (Nat.le_of_ble_eq_true rfl)) rfl (fun v_4 h_3 => ?_)
  exact z_ireturn C ⟨rfl, rfl⟩ dX0_nods_14
def fX1_firmness (N : Nat) (h : AH) (a0 : Nat) (x1 : Int32) (x2 : Int32) (x3 : Int32) (x4 : Int32) (x5 : Int32) : Option (Int32 × AH) :=
  (zkind h a0).bind fun _ =>
  zcall (fX7_firmness N h a0 x1 x2 x3 x4 x5) fun v_2 h_1 =>
  some (v_2 / (2 : Int32), h_1)
theorem kX1_firmness {l : Launch} {g : zG} (N : Nat) (h : AH) (a0 : Nat) (x1 : Int32) (x2 : Int32) (x3 : Int32) (x4 : Int32) (x5 : Int32) : zM l g yX1_firmness cX1_firmness 6 (some .int) (2) 0 0 (fun v : Int32 => some (.int v)) (fX1_firmness N h a0 x1 x2 x3 x4 x5) h [.ref a0, .int x1, .int x2, .int x3, .int x4, .int x5] := by
  refine zM.of (lv0 := [(0, .ref a0), (1, .int x1), (2, .int x2), (3, .int x3), (4, .int x4), (5, .int x5)]) (by decide) (Nat.le_of_ble_eq_true rfl) rfl (fun X hX C => ?_)
  subst hX
  unfold fX1_firmness
  refine z_aload_n C 0 dX1_firmness_0 rfl ?_
  refine z_iload_n C 1 dX1_firmness_1 rfl ?_
  refine z_iload_n C 2 dX1_firmness_2 rfl ?_
  refine z_iload_n C 3 dX1_firmness_3 rfl ?_
  refine z_iload C 4 dX1_firmness_4 rfl ?_
  refine z_iload C 5 dX1_firmness_6 rfl ?_
  refine z_bind (fun _ q_3 => ?_)
  refine z_calli (z_runP (As := [.int x1, .int x2, .int x3, .int x4, .int x5]) (rest := []) C mX1_7 (kX7_firmness N h a0 x1 x2 x3 x4 x5) q_3 (Nat.le_of_ble_eq_true rfl) ⟨Nat.zero_le _, Nat.zero_le _⟩ dX1_firmness_8 rfl rfl (Nat.le_of_ble_eq_true rfl)) rfl (fun v_2 h_1 => ?_)
  refine z_iconst (v := (2 : Int32)) C dX1_firmness_11 rfl ?_
  refine z_idiv C dX1_firmness_12 (by decide) ?_
  exact z_ireturn C ⟨rfl, rfl⟩ dX1_firmness_13
def fX9_nods (N : Nat) (h : AH) (a0 : Nat) (a1 : Nat) (x2 : Int32) : Option (Int32 × AH) :=
  (zis h a1 10).bind fun _ =>
  zcall (fX10_begin N h a1 (70 : Int32)) fun _ h_1 =>
  (zkind h_1 a0).bind fun _ =>
  zcall (fX7_nods N h_1 a0 a1 x2) fun v_4 h_3 =>
  (zkind h_3 a0).bind fun _ =>
  zcall (fX7_dines N h_3 a0 a1 (2 : Int32)) fun v_7 h_6 =>
  some (v_4 + v_7, h_6)
theorem kX9_nods {l : Launch} {g : zG} (N : Nat) (h : AH) (a0 : Nat) (a1 : Nat) (x2 : Int32) : zM l g yX9_nods cX9_nods 3 (some .int) (5) 0 0 (fun v : Int32 => some (.int v)) (fX9_nods N h a0 a1 x2) h [.ref a0, .ref a1, .int x2] := by
  refine zM.of (lv0 := [(0, .ref a0), (1, .ref a1), (2, .int x2)]) (by decide) (Nat.le_of_ble_eq_true rfl) rfl (fun X hX C => ?_)
  subst hX
  unfold fX9_nods
  refine z_aload_n C 1 dX9_nods_0 rfl ?_
  refine z_bipush (v := (70 : Int32)) C dX9_nods_1 rfl ?_
  refine z_bind (fun _ q_2 => ?_)
  refine z_callv (z_runV (As := [.int (70 : Int32)]) (rest := []) C mX9_11 (kX10_begin N h a1 (70 : Int32)) q_2 (Nat.le_of_ble_eq_true rfl) ⟨Nat.zero_le _, Nat.zero_le _⟩ dX9_nods_3 rfl rfl (Nat.le_of_ble_eq_true rfl)) rfl (fun _ h_1 => ?_)
  refine z_aload_n C 0 dX9_nods_6 rfl ?_
  refine z_aload_n C 1 dX9_nods_7 rfl ?_
  refine z_iload_n C 2 dX9_nods_8 rfl ?_
  refine z_bind (fun _ q_5 => ?_)
  refine z_calli (z_runP (As := [.ref a1, .int x2]) (rest := []) C mX9_17 (kX7_nods N h_1 a0 a1 x2) q_5 (Nat.le_of_ble_eq_true rfl) ⟨Nat.zero_le _, Nat.zero_le _⟩ dX9_nods_9 rfl rfl (Nat.le_of_ble_eq_true rfl)) rfl (fun v_4 h_3 => ?_)
  refine z_aload_n C 0 dX9_nods_12 rfl ?_
  refine z_aload_n C 1 dX9_nods_13 rfl ?_
  refine z_iconst (v := (2 : Int32)) C dX9_nods_14 rfl ?_
  refine z_bind (fun _ q_8 => ?_)
  refine z_calli (z_runP (As := [.ref a1, .int (2 : Int32)]) (rest := [.int v_4]) C mX9_21 (kX7_dines N h_3 a0 a1 (2 : Int32)) q_8 (Nat.le_of_ble_eq_true rfl) ⟨Nat.zero_le _, Nat.zero_le _⟩ dX9_nods_15 rfl rfl (Nat.le_of_ble_eq_true rfl)) rfl (fun v_7 h_6 => ?_)
  refine z_iadd C dX9_nods_18 ?_
  exact z_ireturn C ⟨rfl, rfl⟩ dX9_nods_19
def fX7_tells (N : Nat) (h : AH) (a0 : Nat) (a1 : Nat) (x2 : Int32) : Option (Int32 × AH) :=
  (zis h a1 10).bind fun _ =>
  zcall (fX10_begin N h a1 (12 : Int32)) fun _ h_1 =>
  zcall ((zkind h_1 a0).bind fun k_5 => if k_5 = 0 then fX0_nods N h_1 a0 a1 x2 else if k_5 = 1 then fX7_nods N h_1 a0 a1 x2 else if k_5 = 2 then fX7_nods N h_1 a0 a1 x2 else if k_5 = 3 then fX7_nods N h_1 a0 a1 x2 else if k_5 = 4 then fX4_nods N h_1 a0 a1 x2 else if k_5 = 7 then fX7_nods N h_1 a0 a1 x2 else if k_5 = 9 then fX9_nods N h_1 a0 a1 x2 else none) fun v_4 h_3 =>
  some (v_4 * (2 : Int32), h_3)
theorem kX7_tells {l : Launch} {g : zG} (N : Nat) (h : AH) (a0 : Nat) (a1 : Nat) (x2 : Int32) : zM l g yX7_tells cX7_tells 3 (some .int) (7) 0 0 (fun v : Int32 => some (.int v)) (fX7_tells N h a0 a1 x2) h [.ref a0, .ref a1, .int x2] := by
  refine zM.of (lv0 := [(0, .ref a0), (1, .ref a1), (2, .int x2)]) (by decide) (Nat.le_of_ble_eq_true rfl) rfl (fun X hX C => ?_)
  subst hX
  unfold fX7_tells
  refine z_aload_n C 1 dX7_tells_0 rfl ?_
  refine z_bipush (v := (12 : Int32)) C dX7_tells_1 rfl ?_
  refine z_bind (fun _ q_2 => ?_)
  refine z_callv (z_runV (As := [.int (12 : Int32)]) (rest := []) C mX7_7 (kX10_begin N h a1 (12 : Int32)) q_2 (Nat.le_of_ble_eq_true rfl) ⟨Nat.zero_le _, Nat.zero_le _⟩ dX7_tells_3 rfl rfl (Nat.le_of_ble_eq_true rfl)) rfl (fun _ h_1 => ?_)
  refine z_aload_n C 0 dX7_tells_6 rfl ?_
  refine z_aload_n C 1 dX7_tells_7 rfl ?_
  refine z_iload_n C 2 dX7_tells_8 rfl ?_
  refine z_calli (zRun_bind (fun k_5 q_6 => zRun_ite (fun q0 => z_runU (As := [.ref a1, .int x2]) (rest := []) C mX7_26_0 (kX0_nods N h_1 a0 a1 x2) (zis_of_kind (q0 ▸ q_6)) (Nat.le_of_ble_eq_true rfl) ⟨Nat.zero_le _, Nat.zero_le _⟩ dX7_tells_9 rfl rfl (Nat.le_of_ble_eq_true rfl)) (fun _ => zRun_ite (fun q0 => z_runU (As := [.ref a1, .int x2]) (rest := []) C mX7_26_1 (kX7_nods N h_1 a0 a1 x2) (zis_of_kind (q0 ▸ q_6)) (Nat.le_of_ble_eq_true rfl) ⟨Nat.zero_le _, Nat.zero_le _⟩ dX7_tells_9 rfl rfl (Nat.le_of_ble_eq_true rfl)) (fun _ => zRun_ite (fun q0 => z_runU (As := [.ref a1, .int x2]) (rest := []) C mX7_26_2 (kX7_nods N h_1 a0 a1 x2) (zis_of_kind (q0 ▸ q_6)) (Nat.le_of_ble_eq_true rfl) ⟨Nat.zero_le _, Nat.zero_le _⟩ dX7_tells_9 rfl rfl (Nat.le_of_ble_eq_true rfl)) (fun _ => zRun_ite (fun q0 => z_runU (As := [.ref a1, .int x2]) (rest := []) C mX7_26_3 (kX7_nods N h_1 a0 a1 x2) (zis_of_kind (q0 ▸ q_6)) (Nat.le_of_ble_eq_true rfl) ⟨Nat.zero_le _, Nat.zero_le _⟩ dX7_tells_9 rfl rfl (Nat.le_of_ble_eq_true rfl)) (fun _ => zRun_ite (fun q0 => z_runU (As := [.ref a1, .int x2]) (rest := []) C mX7_26_4 (kX4_nods N h_1 a0 a1 x2) (zis_of_kind (q0 ▸ q_6)) (Nat.le_of_ble_eq_true rfl) ⟨Nat.zero_le _, Nat.zero_le _⟩ dX7_tells_9 rfl rfl (Nat.le_of_ble_eq_true rfl)) (fun _ => zRun_ite (fun q0 => z_runV (As := [.ref a1, .int x2]) (rest := []) C mX7_26_7 (kX7_nods N h_1 a0 a1 x2) (zis_of_kind (q0 ▸ q_6)) (Nat.le_of_ble_eq_true rfl) ⟨Nat.zero_le _, Nat.zero_le _⟩ dX7_tells_9 rfl rfl (Nat.le_of_ble_eq_true rfl)) (fun _ => zRun_ite (fun q0 => z_runU (As := [.ref a1, .int x2]) (rest := []) C mX7_26_9 (kX9_nods N h_1 a0 a1 x2) (zis_of_kind (q0 ▸ q_6)) (Nat.le_of_ble_eq_true rfl) ⟨Nat.zero_le _, Nat.zero_le _⟩ dX7_tells_9 rfl rfl (Nat.le_of_ble_eq_true rfl)) (fun _ => zRun_none))))))))) rfl (fun v_4 h_3 => ?_)
  refine z_iconst (v := (2 : Int32)) C dX7_tells_12 rfl ?_
  refine z_imul C dX7_tells_13 ?_
  exact z_ireturn C ⟨rfl, rfl⟩ dX7_tells_14
def fX1_tells (N : Nat) (h : AH) (a0 : Nat) (a1 : Nat) (x2 : Int32) : Option (Int32 × AH) :=
  (zis h a1 10).bind fun _ =>
  zcall (fX10_begin N h a1 (40 : Int32)) fun _ h_1 =>
  (zkind h_1 a0).bind fun _ =>
  zcall (fX7_tells N h_1 a0 a1 x2) fun v_4 h_3 =>
  zcall ((zkind h_3 a0).bind fun k_8 => if k_8 = 1 then fX7_nods N h_3 a0 a1 (1 : Int32) else if k_8 = 9 then fX9_nods N h_3 a0 a1 (1 : Int32) else none) fun v_7 h_6 =>
  some (v_4 + v_7, h_6)
theorem kX1_tells {l : Launch} {g : zG} (N : Nat) (h : AH) (a0 : Nat) (a1 : Nat) (x2 : Int32) : zM l g yX1_tells cX1_tells 3 (some .int) (8) 0 0 (fun v : Int32 => some (.int v)) (fX1_tells N h a0 a1 x2) h [.ref a0, .ref a1, .int x2] := by
  refine zM.of (lv0 := [(0, .ref a0), (1, .ref a1), (2, .int x2)]) (by decide) (Nat.le_of_ble_eq_true rfl) rfl (fun X hX C => ?_)
  subst hX
  unfold fX1_tells
  refine z_aload_n C 1 dX1_tells_0 rfl ?_
  refine z_bipush (v := (40 : Int32)) C dX1_tells_1 rfl ?_
  refine z_bind (fun _ q_2 => ?_)
  refine z_callv (z_runV (As := [.int (40 : Int32)]) (rest := []) C mX1_11 (kX10_begin N h a1 (40 : Int32)) q_2 (Nat.le_of_ble_eq_true rfl) ⟨Nat.zero_le _, Nat.zero_le _⟩ dX1_tells_3 rfl rfl (Nat.le_of_ble_eq_true rfl)) rfl (fun _ h_1 => ?_)
  refine z_aload_n C 0 dX1_tells_6 rfl ?_
  refine z_aload_n C 1 dX1_tells_7 rfl ?_
  refine z_iload_n C 2 dX1_tells_8 rfl ?_
  refine z_bind (fun _ q_5 => ?_)
  refine z_calli (z_runP (As := [.ref a1, .int x2]) (rest := []) C mX1_17 (kX7_tells N h_1 a0 a1 x2) q_5 (Nat.le_of_ble_eq_true rfl) ⟨Nat.zero_le _, Nat.zero_le _⟩ dX1_tells_9 rfl rfl (Nat.le_of_ble_eq_true rfl)) rfl (fun v_4 h_3 => ?_)
  refine z_aload_n C 0 dX1_tells_12 rfl ?_
  refine z_aload_n C 1 dX1_tells_13 rfl ?_
  refine z_iconst (v := (1 : Int32)) C dX1_tells_14 rfl ?_
  refine z_calli (zRun_bind (fun k_8 q_9 => zRun_ite (fun q0 => z_runU (As := [.ref a1, .int (1 : Int32)]) (rest := [.int v_4]) C mX1_21_1 (kX7_nods N h_3 a0 a1 (1 : Int32)) (zis_of_kind (q0 ▸ q_9)) (Nat.le_of_ble_eq_true rfl) ⟨Nat.zero_le _, Nat.zero_le _⟩ dX1_tells_15 rfl rfl (Nat.le_of_ble_eq_true rfl)) (fun _ => zRun_ite (fun q0 => z_runU (As := [.ref a1, .int (1 : Int32)]) (rest := [.int v_4]) C mX1_21_9 (kX9_nods N h_3 a0 a1 (1 : Int32)) (zis_of_kind (q0 ▸ q_9)) (Nat.le_of_ble_eq_true rfl) ⟨Nat.zero_le _, Nat.zero_le _⟩ dX1_tells_15 rfl rfl (Nat.le_of_ble_eq_true rfl)) (fun _ => zRun_none)))) rfl (fun v_7 h_6 => ?_)
  refine z_iadd C dX1_tells_18 ?_
  exact z_ireturn C ⟨rfl, rfl⟩ dX1_tells_19
def fX3_firmness (N : Nat) (h : AH) (a0 : Nat) (x1 : Int32) (x2 : Int32) (x3 : Int32) (x4 : Int32) (x5 : Int32) : Option (Int32 × AH) :=
  (if (x3 - x3 / (2 : Int32) * (2 : Int32)) = (0) then
  (zkind h a0).bind fun _ =>
  zcall (fX7_firmness N h a0 x1 x2 x3 x4 x5) fun v_2 h_1 =>
  some (v_2, h_1)
  else
  some ((0 : Int32), h))
theorem kX3_firmness {l : Launch} {g : zG} (N : Nat) (h : AH) (a0 : Nat) (x1 : Int32) (x2 : Int32) (x3 : Int32) (x4 : Int32) (x5 : Int32) : zM l g yX3_firmness cX3_firmness 6 (some .int) (2) 0 0 (fun v : Int32 => some (.int v)) (fX3_firmness N h a0 x1 x2 x3 x4 x5) h [.ref a0, .int x1, .int x2, .int x3, .int x4, .int x5] := by
  refine zM.of (lv0 := [(0, .ref a0), (1, .int x1), (2, .int x2), (3, .int x3), (4, .int x4), (5, .int x5)]) (by decide) (Nat.le_of_ble_eq_true rfl) rfl (fun X hX C => ?_)
  subst hX
  unfold fX3_firmness
  refine z_iload_n C 3 dX3_firmness_0 rfl ?_
  refine z_iconst (v := (2 : Int32)) C dX3_firmness_1 rfl ?_
  refine z_irem C dX3_firmness_2 (by decide) ?_
  refine z_ifeq C 10 dX3_firmness_3 rfl ?_ ?_
  · refine z_aload_n C 0 dX3_firmness_10 rfl ?_
    refine z_iload_n C 1 dX3_firmness_11 rfl ?_
    refine z_iload_n C 2 dX3_firmness_12 rfl ?_
    refine z_iload_n C 3 dX3_firmness_13 rfl ?_
    refine z_iload C 4 dX3_firmness_14 rfl ?_
    refine z_iload C 5 dX3_firmness_16 rfl ?_
    refine z_bind (fun _ q_3 => ?_)
    refine z_calli (z_runP (As := [.int x1, .int x2, .int x3, .int x4, .int x5]) (rest := []) C mX3_7 (kX7_firmness N h a0 x1 x2 x3 x4 x5) q_3 (Nat.le_of_ble_eq_true rfl) ⟨Nat.zero_le _, Nat.zero_le _⟩ dX3_firmness_18 rfl rfl (Nat.le_of_ble_eq_true rfl)) rfl (fun v_2 h_1 => ?_)
    exact z_ireturn C ⟨rfl, rfl⟩ dX3_firmness_21
  · refine z_iconst (v := (0 : Int32)) C dX3_firmness_6 rfl ?_
    refine z_goto C 21 dX3_firmness_7 rfl ?_
    exact z_ireturn C ⟨rfl, rfl⟩ dX3_firmness_21
def fX2_firmness (N : Nat) (h : AH) (a0 : Nat) (x1 : Int32) (x2 : Int32) (x3 : Int32) (x4 : Int32) (x5 : Int32) : Option (Int32 × AH) :=
  (zkind h a0).bind fun _ =>
  zcall (fX3_firmness N h a0 x1 x2 x3 x4 x5) fun v_2 h_1 =>
  some (v_2 + (x4 - x4 / (3 : Int32) * (3 : Int32)), h_1)
theorem kX2_firmness {l : Launch} {g : zG} (N : Nat) (h : AH) (a0 : Nat) (x1 : Int32) (x2 : Int32) (x3 : Int32) (x4 : Int32) (x5 : Int32) : zM l g yX2_firmness cX2_firmness 6 (some .int) (3) 0 0 (fun v : Int32 => some (.int v)) (fX2_firmness N h a0 x1 x2 x3 x4 x5) h [.ref a0, .int x1, .int x2, .int x3, .int x4, .int x5] := by
  refine zM.of (lv0 := [(0, .ref a0), (1, .int x1), (2, .int x2), (3, .int x3), (4, .int x4), (5, .int x5)]) (by decide) (Nat.le_of_ble_eq_true rfl) rfl (fun X hX C => ?_)
  subst hX
  unfold fX2_firmness
  refine z_aload_n C 0 dX2_firmness_0 rfl ?_
  refine z_iload_n C 1 dX2_firmness_1 rfl ?_
  refine z_iload_n C 2 dX2_firmness_2 rfl ?_
  refine z_iload_n C 3 dX2_firmness_3 rfl ?_
  refine z_iload C 4 dX2_firmness_4 rfl ?_
  refine z_iload C 5 dX2_firmness_6 rfl ?_
  refine z_bind (fun _ q_3 => ?_)
  refine z_calli (z_runP (As := [.int x1, .int x2, .int x3, .int x4, .int x5]) (rest := []) C mX2_7 (kX3_firmness N h a0 x1 x2 x3 x4 x5) q_3 (Nat.le_of_ble_eq_true rfl) ⟨Nat.zero_le _, Nat.zero_le _⟩ dX2_firmness_8 rfl rfl (Nat.le_of_ble_eq_true rfl)) rfl (fun v_2 h_1 => ?_)
  refine z_iload C 4 dX2_firmness_11 rfl ?_
  refine z_iconst (v := (3 : Int32)) C dX2_firmness_13 rfl ?_
  refine z_irem C dX2_firmness_14 (by decide) ?_
  refine z_iadd C dX2_firmness_15 ?_
  exact z_ireturn C ⟨rfl, rfl⟩ dX2_firmness_16
def fX2_tells (N : Nat) (h : AH) (a0 : Nat) (a1 : Nat) (x2 : Int32) : Option (Int32 × AH) :=
  (zis h a1 10).bind fun _ =>
  zcall (fX10_begin N h a1 (60 : Int32)) fun _ h_1 =>
  (zgI h_1 a1 10 0).bind fun v_3 =>
  (zkind h_1 a0).bind fun _ =>
  zcall (fX7_tells N h_1 a0 a1 (x2 - v_3)) fun v_5 h_4 =>
  some (v_5, h_4)
theorem kX2_tells {l : Launch} {g : zG} (N : Nat) (h : AH) (a0 : Nat) (a1 : Nat) (x2 : Int32) : zM l g yX2_tells cX2_tells 3 (some .int) (8) 0 0 (fun v : Int32 => some (.int v)) (fX2_tells N h a0 a1 x2) h [.ref a0, .ref a1, .int x2] := by
  refine zM.of (lv0 := [(0, .ref a0), (1, .ref a1), (2, .int x2)]) (by decide) (Nat.le_of_ble_eq_true rfl) rfl (fun X hX C => ?_)
  subst hX
  unfold fX2_tells
  refine z_aload_n C 1 dX2_tells_0 rfl ?_
  refine z_bipush (v := (60 : Int32)) C dX2_tells_1 rfl ?_
  refine z_bind (fun _ q_2 => ?_)
  refine z_callv (z_runV (As := [.int (60 : Int32)]) (rest := []) C mX2_11 (kX10_begin N h a1 (60 : Int32)) q_2 (Nat.le_of_ble_eq_true rfl) ⟨Nat.zero_le _, Nat.zero_le _⟩ dX2_tells_3 rfl rfl (Nat.le_of_ble_eq_true rfl)) rfl (fun _ h_1 => ?_)
  refine z_aload_n C 0 dX2_tells_6 rfl ?_
  refine z_aload_n C 1 dX2_tells_7 rfl ?_
  refine z_iload_n C 2 dX2_tells_8 rfl ?_
  refine z_aload_n C 1 dX2_tells_9 rfl ?_
  refine z_getI C qX2_17 dX2_tells_10 (fun v_3 => ?_)
  refine z_isub C dX2_tells_13 ?_
  refine z_bind (fun _ q_6 => ?_)
  refine z_calli (z_runP (As := [.ref a1, .int (x2 - v_3)]) (rest := []) C mX2_21 (kX7_tells N h_1 a0 a1 (x2 - v_3)) q_6 (Nat.le_of_ble_eq_true rfl) ⟨Nat.zero_le _, Nat.zero_le _⟩ dX2_tells_14 rfl rfl (Nat.le_of_ble_eq_true rfl)) rfl (fun v_5 h_4 => ?_)
  exact z_ireturn C ⟨rfl, rfl⟩ dX2_tells_17
def fX5_sign (N : Nat) (h : AH) (a0 : Nat) : Option (Int32 × AH) :=
  (zgI h a0 5 7).bind fun v_1 =>
  (if v_1 < (0) then
  some ((-1 : Int32), h)
  else
  (zgI h a0 5 7).bind fun v_2 =>
  (zgI h a0 5 6).bind fun v_3 =>
  (if v_3 ≤ v_2 then
  some ((-1 : Int32), h)
  else
  (zgR h a0 5 5).bind fun a_4 =>
  (zgI h a0 5 7).bind fun v_5 =>
  (zald 1 h a_4 v_5).bind fun v_6 =>
  some (v_6, h)))
theorem kX5_sign {l : Launch} {g : zG} (N : Nat) (h : AH) (a0 : Nat) : zM l g yX5_sign cX5_sign 1 (some .int) (1) 0 0 (fun v : Int32 => some (.int v)) (fX5_sign N h a0) h [.ref a0] := by
  refine zM.of (lv0 := [(0, .ref a0)]) (by decide) (Nat.le_of_ble_eq_true rfl) rfl (fun X hX C => ?_)
  subst hX
  unfold fX5_sign
  refine z_aload_n C 0 dX5_sign_0 rfl ?_
  refine z_getI C qX5_35 dX5_sign_1 (fun v_1 => ?_)
  refine z_iflt C 30 dX5_sign_4 rfl ?_ ?_
  · refine z_iconst (v := (-1 : Int32)) C dX5_sign_30 rfl ?_
    exact z_ireturn C ⟨rfl, rfl⟩ dX5_sign_31
  · refine z_aload_n C 0 dX5_sign_7 rfl ?_
    refine z_getI C qX5_35 dX5_sign_8 (fun v_2 => ?_)
    refine z_aload_n C 0 dX5_sign_11 rfl ?_
    refine z_getI C qX5_32 dX5_sign_12 (fun v_3 => ?_)
    refine z_icmpge C 30 dX5_sign_15 rfl ?_ ?_
    · refine z_iconst (v := (-1 : Int32)) C dX5_sign_30 rfl ?_
      exact z_ireturn C ⟨rfl, rfl⟩ dX5_sign_31
    · refine z_aload_n C 0 dX5_sign_18 rfl ?_
      refine z_getR C qX5_28 dX5_sign_19 (fun a_4 => ?_)
      refine z_aload_n C 0 dX5_sign_22 rfl ?_
      refine z_getI C qX5_35 dX5_sign_23 (fun v_5 => ?_)
      refine z_baload C dX5_sign_26 (fun v_6 => ?_)
      refine z_goto C 31 dX5_sign_27 rfl ?_
      exact z_ireturn C ⟨rfl, rfl⟩ dX5_sign_31
def bX5_takeNumber_96 (N : Nat) (h : AH) (a0 : Nat) (x1 : Int32) : Option (Int32 × AH) :=
  (zgI h a0 5 7).bind fun v_1 =>
  (if v_1 ≤ x1 then
  zret .boolean (0 : Int32) h
  else
  zret .boolean (1 : Int32) h)
theorem tX5_takeNumber_96 {X : zX} {g : zG} (C : zC X g yX5_takeNumber cX5_takeNumber 3 1 0 0 (some .boolean)) (N : Nat) (h : AH) (a0 : Nat) (x1 : Int32) : ZZ X g 3 (0, 0, 0, 0) (fun v : Int32 => some (.int v)) (bX5_takeNumber_96 N h a0 x1) h 96 [(0, .ref a0), (1, .int x1)] [] := by
  unfold bX5_takeNumber_96
  refine z_aload_n C 0 dX5_takeNumber_96 rfl ?_
  refine z_getI C qX5_35 dX5_takeNumber_97 (fun v_1 => ?_)
  refine z_iload_n C 1 dX5_takeNumber_100 rfl ?_
  refine z_icmple C 108 dX5_takeNumber_101 rfl ?_ ?_
  · refine z_iconst (v := (0 : Int32)) C dX5_takeNumber_108 rfl ?_
    exact z_zreturn C ⟨rfl, rfl⟩ dX5_takeNumber_109
  · refine z_iconst (v := (1 : Int32)) C dX5_takeNumber_104 rfl ?_
    refine z_goto C 109 dX5_takeNumber_105 rfl ?_
    exact z_zreturn C ⟨rfl, rfl⟩ dX5_takeNumber_109
def bX5_takeNumber_12 (N : Nat) (r12 : AH → Nat → Int32 → Int32 → Option (Int32 × AH)) (h : AH) (a0 : Nat) (x1 : Int32) (x2 : Int32) : Option (Int32 × AH) :=
  (if (2 : Int32) ≤ x2 then
  bX5_takeNumber_96 N h a0 x1
  else
  (zgI h a0 5 7).bind fun v_1 =>
  (zgI h a0 5 6).bind fun v_2 =>
  (if v_2 ≤ v_1 then
  bX5_takeNumber_96 N h a0 x1
  else
  (zgR h a0 5 5).bind fun a_3 =>
  (zgI h a0 5 7).bind fun v_4 =>
  (zald 1 h a_3 v_4).bind fun v_5 =>
  (if v_5 < (48 : Int32) then
  bX5_takeNumber_96 N h a0 x1
  else
  (zgR h a0 5 5).bind fun a_6 =>
  (zgI h a0 5 7).bind fun v_7 =>
  (zald 1 h a_6 v_7).bind fun v_8 =>
  (if (57 : Int32) < v_8 then
  bX5_takeNumber_96 N h a0 x1
  else
  (zgI h a0 5 8).bind fun v_9 =>
  (zgR h a0 5 5).bind fun a_10 =>
  (zgI h a0 5 7).bind fun v_11 =>
  (zald 1 h a_10 v_11).bind fun v_12 =>
  (zput h a0 5 8 (.int (((v_9 * (10 : Int32)) + v_12) - (48 : Int32)))).bind fun h_13 =>
  (zgI h_13 a0 5 7).bind fun v_14 =>
  (zput h_13 a0 5 7 (.int (v_14 + (1 : Int32)))).bind fun h_15 =>
  r12 h_15 a0 x1 (x2 + (1 : Int32))))))
theorem tX5_takeNumber_12 {X : zX} {g : zG} (C : zC X g yX5_takeNumber cX5_takeNumber 3 1 0 0 (some .boolean)) (N : Nat) (n : Nat) : ∀ (h : AH) (a0 : Nat) (x1 : Int32) (x2 : Int32), ZZ X g 3 (0, 0, 0, 0) (fun v : Int32 => some (.int v)) (zfix (fun _ _ _ _ => none) (bX5_takeNumber_12 N) n h a0 x1 x2) h 12 [(0, .ref a0), (1, .int x1), (2, .int x2)] [] := by
  induction n with
  | zero => intro h a0 x1 x2; exact z_none
  | succ n hr12 =>
    intro h a0 x1 x2
    show ZZ X g 3 (0, 0, 0, 0) _ (bX5_takeNumber_12 N (zfix (fun _ _ _ _ => none) (bX5_takeNumber_12 N) n) h a0 x1 x2) h 12 _ _
    unfold bX5_takeNumber_12
    refine z_iload_n C 2 dX5_takeNumber_12 rfl ?_
    refine z_iconst (v := (2 : Int32)) C dX5_takeNumber_13 rfl ?_
    refine z_icmpge C 96 dX5_takeNumber_14 rfl ?_ ?_
    · exact z_lv _ [0, 1] rfl (tX5_takeNumber_96 C N _ a0 x1)
    · refine z_aload_n C 0 dX5_takeNumber_17 rfl ?_
      refine z_getI C qX5_35 dX5_takeNumber_18 (fun v_1 => ?_)
      refine z_aload_n C 0 dX5_takeNumber_21 rfl ?_
      refine z_getI C qX5_32 dX5_takeNumber_22 (fun v_2 => ?_)
      refine z_icmpge C 96 dX5_takeNumber_25 rfl ?_ ?_
      · exact z_lv _ [0, 1] rfl (tX5_takeNumber_96 C N _ a0 x1)
      · refine z_aload_n C 0 dX5_takeNumber_28 rfl ?_
        refine z_getR C qX5_28 dX5_takeNumber_29 (fun a_3 => ?_)
        refine z_aload_n C 0 dX5_takeNumber_32 rfl ?_
        refine z_getI C qX5_35 dX5_takeNumber_33 (fun v_4 => ?_)
        refine z_baload C dX5_takeNumber_36 (fun v_5 => ?_)
        refine z_bipush (v := (48 : Int32)) C dX5_takeNumber_37 rfl ?_
        refine z_icmplt C 96 dX5_takeNumber_39 rfl ?_ ?_
        · exact z_lv _ [0, 1] rfl (tX5_takeNumber_96 C N _ a0 x1)
        · refine z_aload_n C 0 dX5_takeNumber_42 rfl ?_
          refine z_getR C qX5_28 dX5_takeNumber_43 (fun a_6 => ?_)
          refine z_aload_n C 0 dX5_takeNumber_46 rfl ?_
          refine z_getI C qX5_35 dX5_takeNumber_47 (fun v_7 => ?_)
          refine z_baload C dX5_takeNumber_50 (fun v_8 => ?_)
          refine z_bipush (v := (57 : Int32)) C dX5_takeNumber_51 rfl ?_
          refine z_icmpgt C 96 dX5_takeNumber_53 rfl ?_ ?_
          · exact z_lv _ [0, 1] rfl (tX5_takeNumber_96 C N _ a0 x1)
          · refine z_aload_n C 0 dX5_takeNumber_56 rfl ?_
            refine z_aload_n C 0 dX5_takeNumber_57 rfl ?_
            refine z_getI C qX5_38 dX5_takeNumber_58 (fun v_9 => ?_)
            refine z_bipush (v := (10 : Int32)) C dX5_takeNumber_61 rfl ?_
            refine z_imul C dX5_takeNumber_63 ?_
            refine z_aload_n C 0 dX5_takeNumber_64 rfl ?_
            refine z_getR C qX5_28 dX5_takeNumber_65 (fun a_10 => ?_)
            refine z_aload_n C 0 dX5_takeNumber_68 rfl ?_
            refine z_getI C qX5_35 dX5_takeNumber_69 (fun v_11 => ?_)
            refine z_baload C dX5_takeNumber_72 (fun v_12 => ?_)
            refine z_iadd C dX5_takeNumber_73 ?_
            refine z_bipush (v := (48 : Int32)) C dX5_takeNumber_74 rfl ?_
            refine z_isub C dX5_takeNumber_76 ?_
            refine z_putI C pX5_38 dX5_takeNumber_77 (fun h_13 => ?_)
            refine z_aload_n C 0 dX5_takeNumber_80 rfl ?_
            refine z_dup C dX5_takeNumber_81 rfl ?_
            refine z_getI C qX5_35 dX5_takeNumber_82 (fun v_14 => ?_)
            refine z_iconst (v := (1 : Int32)) C dX5_takeNumber_85 rfl ?_
            refine z_iadd C dX5_takeNumber_86 ?_
            refine z_putI C pX5_35 dX5_takeNumber_87 (fun h_15 => ?_)
            refine z_iinc (v := x2 + (1 : Int32)) C 2 dX5_takeNumber_90 [(2, .int (x2 + (1 : Int32))), (0, .ref a0), (1, .int x1)] rfl rfl (by decide) rfl ?_
            refine z_goto C 12 dX5_takeNumber_93 rfl ?_
            exact z_lv _ [1, 2, 0] rfl (hr12 _ a0 x1 (x2 + (1 : Int32)))
def fX5_takeNumber (N : Nat) (h : AH) (a0 : Nat) : Option (Int32 × AH) :=
  (zgI h a0 5 7).bind fun v_1 =>
  (zput h a0 5 8 (.int (0 : Int32))).bind fun h_2 =>
  zfix (fun _ _ _ _ => none) (bX5_takeNumber_12 N) N h_2 a0 v_1 (0 : Int32)
theorem kX5_takeNumber {l : Launch} {g : zG} (N : Nat) (h : AH) (a0 : Nat) : zM l g yX5_takeNumber cX5_takeNumber 3 (some .boolean) (1) 0 0 (fun v : Int32 => some (.int v)) (fX5_takeNumber N h a0) h [.ref a0] := by
  refine zM.of (lv0 := [(0, .ref a0)]) (by decide) (Nat.le_of_ble_eq_true rfl) rfl (fun X hX C => ?_)
  subst hX
  unfold fX5_takeNumber
  refine z_aload_n C 0 dX5_takeNumber_0 rfl ?_
  refine z_getI C qX5_35 dX5_takeNumber_1 (fun v_1 => ?_)
  refine z_istore_n C dX5_takeNumber_4 [(1, .int v_1), (0, .ref a0)] (by decide) rfl ?_
  refine z_aload_n C 1 dX5_takeNumber_5 rfl ?_
  refine z_iconst (v := (0 : Int32)) C dX5_takeNumber_6 rfl ?_
  refine z_putI C pX5_38 dX5_takeNumber_7 (fun h_2 => ?_)
  refine z_iconst (v := (0 : Int32)) C dX5_takeNumber_10 rfl ?_
  refine z_istore_n C dX5_takeNumber_11 [(2, .int (0 : Int32)), (1, .int v_1), (0, .ref a0)] (by decide) rfl ?_
  exact z_lv _ [2, 1, 0] rfl (tX5_takeNumber_12 C N N _ a0 v_1 (0 : Int32))
def fX5_addStep (N : Nat) (h : AH) (a0 : Nat) (x1 : Int32) (x2 : Int32) : Option (Int32 × AH) :=
  (zgI h a0 5 2).bind fun v_1 =>
  (zgR h a0 5 1).bind fun a_2 =>
  (zlen h a_2).bind fun v_3 =>
  (if v_1 < v_3 then
  (zgR h a0 5 1).bind fun a_4 =>
  (zgI h a0 5 2).bind fun v_5 =>
  (zast 0 h a_4 v_5 ((x1 * (256 : Int32)) + x2)).bind fun h_6 =>
  (zgI h_6 a0 5 2).bind fun v_7 =>
  (zput h_6 a0 5 2 (.int (v_7 + (1 : Int32)))).bind fun h_8 =>
  zret .boolean (1 : Int32) h_8
  else
  zret .boolean (0 : Int32) h)
theorem kX5_addStep {l : Launch} {g : zG} (N : Nat) (h : AH) (a0 : Nat) (x1 : Int32) (x2 : Int32) : zM l g yX5_addStep cX5_addStep 3 (some .boolean) (1) 0 0 (fun v : Int32 => some (.int v)) (fX5_addStep N h a0 x1 x2) h [.ref a0, .int x1, .int x2] := by
  refine zM.of (lv0 := [(0, .ref a0), (1, .int x1), (2, .int x2)]) (by decide) (Nat.le_of_ble_eq_true rfl) rfl (fun X hX C => ?_)
  subst hX
  unfold fX5_addStep
  refine z_aload_n C 0 dX5_addStep_0 rfl ?_
  refine z_getI C qX5_19 dX5_addStep_1 (fun v_1 => ?_)
  refine z_aload_n C 0 dX5_addStep_4 rfl ?_
  refine z_getR C qX5_15 dX5_addStep_5 (fun a_2 => ?_)
  refine z_alen C dX5_addStep_8 (fun v_3 => ?_)
  refine z_icmplt C 14 dX5_addStep_9 rfl ?_ ?_
  · refine z_aload_n C 0 dX5_addStep_14 rfl ?_
    refine z_getR C qX5_15 dX5_addStep_15 (fun a_4 => ?_)
    refine z_aload_n C 0 dX5_addStep_18 rfl ?_
    refine z_getI C qX5_19 dX5_addStep_19 (fun v_5 => ?_)
    refine z_iload_n C 1 dX5_addStep_22 rfl ?_
    refine z_sipush (v := (256 : Int32)) C dX5_addStep_23 rfl ?_
    refine z_imul C dX5_addStep_26 ?_
    refine z_iload_n C 2 dX5_addStep_27 rfl ?_
    refine z_iadd C dX5_addStep_28 ?_
    refine z_iastore C dX5_addStep_29 (fun h_6 => ?_)
    refine z_aload_n C 0 dX5_addStep_30 rfl ?_
    refine z_dup C dX5_addStep_31 rfl ?_
    refine z_getI C qX5_19 dX5_addStep_32 (fun v_7 => ?_)
    refine z_iconst (v := (1 : Int32)) C dX5_addStep_35 rfl ?_
    refine z_iadd C dX5_addStep_36 ?_
    refine z_putI C pX5_19 dX5_addStep_37 (fun h_8 => ?_)
    refine z_iconst (v := (1 : Int32)) C dX5_addStep_40 rfl ?_
    exact z_zreturn C ⟨rfl, rfl⟩ dX5_addStep_41
  · refine z_iconst (v := (0 : Int32)) C dX5_addStep_12 rfl ?_
    exact z_zreturn C ⟨rfl, rfl⟩ dX5_addStep_13
def fX5_compares (N : Nat) (h : AH) (x0 : Int32) (x1 : Int32) (x2 : Int32) : Option (Int32 × AH) :=
  (if x1 = (0 : Int32) then
  (if x2 ≤ x0 then
  zret .boolean (0 : Int32) h
  else
  zret .boolean (1 : Int32) h)
  else if x1 = (1 : Int32) then
  (if x0 = x2 then
  zret .boolean (1 : Int32) h
  else
  zret .boolean (0 : Int32) h)
  else 
  (if x0 ≤ x2 then
  zret .boolean (0 : Int32) h
  else
  zret .boolean (1 : Int32) h))
theorem kX5_compares {l : Launch} {g : zG} (N : Nat) (h : AH) (x0 : Int32) (x1 : Int32) (x2 : Int32) : zM l g yX5_compares cX5_compares 3 (some .boolean) (1) 0 0 (fun v : Int32 => some (.int v)) (fX5_compares N h x0 x1 x2) h [.int x0, .int x1, .int x2] := by
  refine zM.of (lv0 := [(0, .int x0), (1, .int x1), (2, .int x2)]) (by decide) (Nat.le_of_ble_eq_true rfl) rfl (fun X hX C => ?_)
  subst hX
  unfold fX5_compares
  refine z_iload_n C 1 dX5_compares_0 rfl ?_
  refine z_ite (fun q_1 => ?_) (fun q_1 => ?_)
  · subst q_1
    refine z_lookup C 28 dX5_compares_1 rfl rfl rfl ?_
    refine z_iload_n C 0 dX5_compares_28 rfl ?_
    refine z_iload_n C 2 dX5_compares_29 rfl ?_
    refine z_icmpge C 37 dX5_compares_30 rfl ?_ ?_
    · refine z_iconst (v := (0 : Int32)) C dX5_compares_37 rfl ?_
      exact z_zreturn C ⟨rfl, rfl⟩ dX5_compares_38
    · refine z_iconst (v := (1 : Int32)) C dX5_compares_33 rfl ?_
      refine z_goto C 38 dX5_compares_34 rfl ?_
      exact z_zreturn C ⟨rfl, rfl⟩ dX5_compares_38
  refine z_ite (fun q_2 => ?_) (fun q_2 => ?_)
  · subst q_2
    refine z_lookup C 39 dX5_compares_1 rfl rfl rfl ?_
    refine z_iload_n C 0 dX5_compares_39 rfl ?_
    refine z_iload_n C 2 dX5_compares_40 rfl ?_
    refine z_icmpne C 48 dX5_compares_41 rfl ?_ ?_
    · refine z_iconst (v := (0 : Int32)) C dX5_compares_48 rfl ?_
      exact z_zreturn C ⟨rfl, rfl⟩ dX5_compares_49
    · refine z_iconst (v := (1 : Int32)) C dX5_compares_44 rfl ?_
      refine z_goto C 49 dX5_compares_45 rfl ?_
      exact z_zreturn C ⟨rfl, rfl⟩ dX5_compares_49
  refine z_lookup (o := 49) C 50 dX5_compares_1 rfl (by show Op.lookupswitch.offset [(0, 27), (1, 38)] 49 x1.toInt = 49; rw [lv_osw (a := 0) q_1 rfl, lv_osw (a := 1) q_2 rfl]; first | done | rfl) rfl ?_
  refine z_iload_n C 0 dX5_compares_50 rfl ?_
  refine z_iload_n C 2 dX5_compares_51 rfl ?_
  refine z_icmple C 59 dX5_compares_52 rfl ?_ ?_
  · refine z_iconst (v := (0 : Int32)) C dX5_compares_59 rfl ?_
    exact z_zreturn C ⟨rfl, rfl⟩ dX5_compares_60
  · refine z_iconst (v := (1 : Int32)) C dX5_compares_55 rfl ?_
    refine z_goto C 60 dX5_compares_56 rfl ?_
    exact z_zreturn C ⟨rfl, rfl⟩ dX5_compares_60
def bX5_factsThat_4 (N : Nat) (r4 : AH → Int32 → Int32 → Int32 → Int32 → Option (Int32 × AH)) (h : AH) (x0 : Int32) (x1 : Int32) (x2 : Int32) (x3 : Int32) : Option (Int32 × AH) :=
  (if (8 : Int32) ≤ x3 then
  some (x2, h)
  else
  zcall (fX5_compares N h x3 x0 x1) fun v_2 h_1 =>
  (if v_2 = (0) then
  r4 h_1 x0 x1 x2 (x3 + (1 : Int32))
  else
  znm (x2 ||| ((1 : Int32) <<< (x3 &&& 31))) fun y_3 =>
  r4 h_1 x0 x1 y_3 (x3 + (1 : Int32))))
theorem tX5_factsThat_4 {X : zX} {g : zG} (C : zC X g yX5_factsThat cX5_factsThat 4 2 0 0 (some .int)) (N : Nat) (n : Nat) : ∀ (h : AH) (x0 : Int32) (x1 : Int32) (x2 : Int32) (x3 : Int32), ZZ X g 4 (0, 0, 0, 0) (fun v : Int32 => some (.int v)) (zfix (fun _ _ _ _ _ => none) (bX5_factsThat_4 N) n h x0 x1 x2 x3) h 4 [(0, .int x0), (1, .int x1), (2, .int x2), (3, .int x3)] [] := by
  induction n with
  | zero => intro h x0 x1 x2 x3; exact z_none
  | succ n hr4 =>
    intro h x0 x1 x2 x3
    show ZZ X g 4 (0, 0, 0, 0) _ (bX5_factsThat_4 N (zfix (fun _ _ _ _ _ => none) (bX5_factsThat_4 N) n) h x0 x1 x2 x3) h 4 _ _
    unfold bX5_factsThat_4
    refine z_iload_n C 3 dX5_factsThat_4 rfl ?_
    refine z_bipush (v := (8 : Int32)) C dX5_factsThat_5 rfl ?_
    refine z_icmpge C 31 dX5_factsThat_7 rfl ?_ ?_
    · refine z_iload_n C 2 dX5_factsThat_31 rfl ?_
      exact z_ireturn C ⟨rfl, rfl⟩ dX5_factsThat_32
    · refine z_iload_n C 3 dX5_factsThat_10 rfl ?_
      refine z_iload_n C 0 dX5_factsThat_11 rfl ?_
      refine z_iload_n C 1 dX5_factsThat_12 rfl ?_
      refine z_calli (z_runS (As := [.int x3, .int x0, .int x1]) (rest := []) C mX5_115 (kX5_compares N h x3 x0 x1) (Nat.le_of_ble_eq_true rfl) ⟨Nat.zero_le _, Nat.zero_le _⟩ dX5_factsThat_13 rfl rfl (Nat.le_of_ble_eq_true rfl)) rfl (fun v_2 h_1 => ?_)
      refine z_ifeq C 25 dX5_factsThat_16 rfl ?_ ?_
      · refine z_iinc (v := x3 + (1 : Int32)) C 3 dX5_factsThat_25 [(3, .int (x3 + (1 : Int32))), (0, .int x0), (1, .int x1), (2, .int x2)] rfl rfl (by decide) rfl ?_
        refine z_goto C 4 dX5_factsThat_28 rfl ?_
        exact z_lv _ [1, 2, 3, 0] rfl (hr4 _ x0 x1 x2 (x3 + (1 : Int32)))
      · refine z_iload_n C 2 dX5_factsThat_19 rfl ?_
        refine z_iconst (v := (1 : Int32)) C dX5_factsThat_20 rfl ?_
        refine z_iload_n C 3 dX5_factsThat_21 rfl ?_
        refine z_ishl C dX5_factsThat_22 ?_
        refine z_ior C dX5_factsThat_23 ?_
        refine z_nmI (fun y_3 => ?_)
        refine z_istore_n C dX5_factsThat_24 [(2, .int y_3), (0, .int x0), (1, .int x1), (3, .int x3)] (by decide) rfl ?_
        refine z_iinc (v := x3 + (1 : Int32)) C 3 dX5_factsThat_25 [(3, .int (x3 + (1 : Int32))), (2, .int y_3), (0, .int x0), (1, .int x1)] rfl rfl (by decide) rfl ?_
        refine z_goto C 4 dX5_factsThat_28 rfl ?_
        exact z_lv _ [2, 3, 1, 0] rfl (hr4 _ x0 x1 y_3 (x3 + (1 : Int32)))
def fX5_factsThat (N : Nat) (h : AH) (x0 : Int32) (x1 : Int32) : Option (Int32 × AH) :=
  zfix (fun _ _ _ _ _ => none) (bX5_factsThat_4 N) N h x0 x1 (0 : Int32) (0 : Int32)
theorem kX5_factsThat {l : Launch} {g : zG} (N : Nat) (h : AH) (x0 : Int32) (x1 : Int32) : zM l g yX5_factsThat cX5_factsThat 4 (some .int) (2) 0 0 (fun v : Int32 => some (.int v)) (fX5_factsThat N h x0 x1) h [.int x0, .int x1] := by
  refine zM.of (lv0 := [(0, .int x0), (1, .int x1)]) (by decide) (Nat.le_of_ble_eq_true rfl) rfl (fun X hX C => ?_)
  subst hX
  unfold fX5_factsThat
  refine z_iconst (v := (0 : Int32)) C dX5_factsThat_0 rfl ?_
  refine z_istore_n C dX5_factsThat_1 [(2, .int (0 : Int32)), (0, .int x0), (1, .int x1)] (by decide) rfl ?_
  refine z_iconst (v := (0 : Int32)) C dX5_factsThat_2 rfl ?_
  refine z_istore_n C dX5_factsThat_3 [(3, .int (0 : Int32)), (2, .int (0 : Int32)), (0, .int x0), (1, .int x1)] (by decide) rfl ?_
  exact z_lv _ [2, 3, 1, 0] rfl (tX5_factsThat_4 C N N _ x0 x1 (0 : Int32) (0 : Int32))
def bX5_settleFactTests_2 (N : Nat) (r2 : AH → Nat → Int32 → Option (Unit × AH)) (h : AH) (a0 : Nat) (x1 : Int32) : Option (Unit × AH) :=
  (zgI h a0 5 2).bind fun v_1 =>
  (if v_1 ≤ x1 then
  some ((), h)
  else
  (zgR h a0 5 1).bind fun a_2 =>
  (zald 0 h a_2 x1).bind fun v_3 =>
  znm (v_3 / (256 : Int32)) fun y_4 =>
  (if (18 : Int32) ≤ y_4 then
  r2 h a0 (x1 + (1 : Int32))
  else
  (if (y_4 / (3 : Int32)) = (3 : Int32) then
  (zgR h a0 5 1).bind fun a_5 =>
  (zgR h a0 5 1).bind fun a_6 =>
  (zald 0 h a_6 x1).bind fun v_7 =>
  zcall (fX5_factsThat N h (y_4 - y_4 / (3 : Int32) * (3 : Int32)) (v_7 - v_7 / (256 : Int32) * (256 : Int32))) fun v_9 h_8 =>
  (zast 0 h_8 a_5 x1 ((4608 : Int32) + v_9)).bind fun h_10 =>
  r2 h_10 a0 (x1 + (1 : Int32))
  else
  r2 h a0 (x1 + (1 : Int32)))))
theorem tX5_settleFactTests_2 {X : zX} {g : zG} (C : zC X g yX5_settleFactTests cX5_settleFactTests 3 3 0 0 none) (N : Nat) (n : Nat) : ∀ (h : AH) (a0 : Nat) (x1 : Int32), ZZ X g 3 (0, 0, 0, 0) (fun _ : Unit => none) (zfix (fun _ _ _ => none) (bX5_settleFactTests_2 N) n h a0 x1) h 2 [(0, .ref a0), (1, .int x1)] [] := by
  induction n with
  | zero => intro h a0 x1; exact z_none
  | succ n hr2 =>
    intro h a0 x1
    show ZZ X g 3 (0, 0, 0, 0) _ (bX5_settleFactTests_2 N (zfix (fun _ _ _ => none) (bX5_settleFactTests_2 N) n) h a0 x1) h 2 _ _
    unfold bX5_settleFactTests_2
    refine z_iload_n C 1 dX5_settleFactTests_2 rfl ?_
    refine z_aload_n C 0 dX5_settleFactTests_3 rfl ?_
    refine z_getI C qX5_19 dX5_settleFactTests_4 (fun v_1 => ?_)
    refine z_icmpge C 66 dX5_settleFactTests_7 rfl ?_ ?_
    · exact z_return C ⟨rfl, rfl⟩ dX5_settleFactTests_66
    · refine z_aload_n C 0 dX5_settleFactTests_10 rfl ?_
      refine z_getR C qX5_15 dX5_settleFactTests_11 (fun a_2 => ?_)
      refine z_iload_n C 1 dX5_settleFactTests_14 rfl ?_
      refine z_iaload C dX5_settleFactTests_15 (fun v_3 => ?_)
      refine z_sipush (v := (256 : Int32)) C dX5_settleFactTests_16 rfl ?_
      refine z_idiv C dX5_settleFactTests_19 (by decide) ?_
      refine z_nmI (fun y_4 => ?_)
      refine z_istore_n C dX5_settleFactTests_20 [(2, .int y_4), (0, .ref a0), (1, .int x1)] (by decide) rfl ?_
      refine z_iload_n C 0 dX5_settleFactTests_21 rfl ?_
      refine z_bipush (v := (18 : Int32)) C dX5_settleFactTests_22 rfl ?_
      refine z_icmpge C 60 dX5_settleFactTests_24 rfl ?_ ?_
      · refine z_iinc (v := x1 + (1 : Int32)) C 2 dX5_settleFactTests_60 [(1, .int (x1 + (1 : Int32))), (2, .int y_4), (0, .ref a0)] rfl rfl (by decide) rfl ?_
        refine z_goto C 2 dX5_settleFactTests_63 rfl ?_
        exact z_lv _ [2, 0] rfl (hr2 _ a0 (x1 + (1 : Int32)))
      · refine z_iload_n C 0 dX5_settleFactTests_27 rfl ?_
        refine z_iconst (v := (3 : Int32)) C dX5_settleFactTests_28 rfl ?_
        refine z_idiv C dX5_settleFactTests_29 (by decide) ?_
        refine z_iconst (v := (3 : Int32)) C dX5_settleFactTests_30 rfl ?_
        refine z_icmpne C 60 dX5_settleFactTests_31 rfl ?_ ?_
        · refine z_iinc (v := x1 + (1 : Int32)) C 2 dX5_settleFactTests_60 [(1, .int (x1 + (1 : Int32))), (2, .int y_4), (0, .ref a0)] rfl rfl (by decide) rfl ?_
          refine z_goto C 2 dX5_settleFactTests_63 rfl ?_
          exact z_lv _ [2, 0] rfl (hr2 _ a0 (x1 + (1 : Int32)))
        · refine z_aload_n C 1 dX5_settleFactTests_34 rfl ?_
          refine z_getR C qX5_15 dX5_settleFactTests_35 (fun a_5 => ?_)
          refine z_iload_n C 2 dX5_settleFactTests_38 rfl ?_
          refine z_sipush (v := (4608 : Int32)) C dX5_settleFactTests_39 rfl ?_
          refine z_iload_n C 0 dX5_settleFactTests_42 rfl ?_
          refine z_iconst (v := (3 : Int32)) C dX5_settleFactTests_43 rfl ?_
          refine z_irem C dX5_settleFactTests_44 (by decide) ?_
          refine z_aload_n C 1 dX5_settleFactTests_45 rfl ?_
          refine z_getR C qX5_15 dX5_settleFactTests_46 (fun a_6 => ?_)
          refine z_iload_n C 2 dX5_settleFactTests_49 rfl ?_
          refine z_iaload C dX5_settleFactTests_50 (fun v_7 => ?_)
          refine z_sipush (v := (256 : Int32)) C dX5_settleFactTests_51 rfl ?_
          refine z_irem C dX5_settleFactTests_54 (by decide) ?_
          refine z_calli (z_runS (As := [.int (y_4 - y_4 / (3 : Int32) * (3 : Int32)), .int (v_7 - v_7 / (256 : Int32) * (256 : Int32))]) (rest := [.int (4608 : Int32), .int x1, .ref a_5]) C mX5_58 (kX5_factsThat N h (y_4 - y_4 / (3 : Int32) * (3 : Int32)) (v_7 - v_7 / (256 : Int32) * (256 : Int32))) (Nat.le_of_ble_eq_true rfl) ⟨Nat.zero_le _, Nat.zero_le _⟩ dX5_settleFactTests_55 rfl rfl (Nat.le_of_ble_eq_true rfl)) rfl (fun v_9 h_8 => ?_)
          refine z_iadd C dX5_settleFactTests_58 ?_
          refine z_iastore C dX5_settleFactTests_59 (fun h_10 => ?_)
          refine z_iinc (v := x1 + (1 : Int32)) C 2 dX5_settleFactTests_60 [(1, .int (x1 + (1 : Int32))), (2, .int y_4), (0, .ref a0)] rfl rfl (by decide) rfl ?_
          refine z_goto C 2 dX5_settleFactTests_63 rfl ?_
          exact z_lv _ [2, 0] rfl (hr2 _ a0 (x1 + (1 : Int32)))
def fX5_settleFactTests (N : Nat) (h : AH) (a0 : Nat) : Option (Unit × AH) :=
  zfix (fun _ _ _ => none) (bX5_settleFactTests_2 N) N h a0 (0 : Int32)
theorem kX5_settleFactTests {l : Launch} {g : zG} (N : Nat) (h : AH) (a0 : Nat) : zM l g yX5_settleFactTests cX5_settleFactTests 3 none (3) 0 0 (fun _ : Unit => none) (fX5_settleFactTests N h a0) h [.ref a0] := by
  refine zM.of (lv0 := [(0, .ref a0)]) (by decide) (Nat.le_of_ble_eq_true rfl) rfl (fun X hX C => ?_)
  subst hX
  unfold fX5_settleFactTests
  refine z_iconst (v := (0 : Int32)) C dX5_settleFactTests_0 rfl ?_
  refine z_istore_n C dX5_settleFactTests_1 [(1, .int (0 : Int32)), (0, .ref a0)] (by decide) rfl ?_
  exact z_lv _ [1, 0] rfl (tX5_settleFactTests_2 C N N _ a0 (0 : Int32))
def bJ7_fill_53178_5 (N : Nat) (r5 : AH → Nat → Int32 → Int32 → Int32 → Option (Unit × AH)) (h : AH) (a0 : Nat) (x1 : Int32) (x2 : Int32) (x3 : Int32) : Option (Unit × AH) :=
  (if x3 ≤ x2 then
  some ((), h)
  else
  (zast 0 h a0 x2 x1).bind fun h_1 =>
  r5 h_1 a0 x1 (x2 + (1 : Int32)) x3)
theorem tJ7_fill_53178_5 {X : zX} {g : zG} (C : zC X g yJ7_fill_53178 cJ7_fill_53178 4 1 0 0 none) (N : Nat) (n : Nat) : ∀ (h : AH) (a0 : Nat) (x1 : Int32) (x2 : Int32) (x3 : Int32), ZZ X g 4 (0, 0, 0, 0) (fun _ : Unit => none) (zfix (fun _ _ _ _ _ => none) (bJ7_fill_53178_5 N) n h a0 x1 x2 x3) h 5 [(0, .ref a0), (1, .int x1), (2, .int x2), (3, .int x3)] [] := by
  induction n with
  | zero => intro h a0 x1 x2 x3; exact z_none
  | succ n hr5 =>
    intro h a0 x1 x2 x3
    show ZZ X g 4 (0, 0, 0, 0) _ (bJ7_fill_53178_5 N (zfix (fun _ _ _ _ _ => none) (bJ7_fill_53178_5 N) n) h a0 x1 x2 x3) h 5 _ _
    unfold bJ7_fill_53178_5
    refine z_iload_n C 2 dJ7_fill_53178_5 rfl ?_
    refine z_iload_n C 3 dJ7_fill_53178_6 rfl ?_
    refine z_icmpge C 20 dJ7_fill_53178_7 rfl ?_ ?_
    · exact z_return C ⟨rfl, rfl⟩ dJ7_fill_53178_20
    · refine z_aload_n C 0 dJ7_fill_53178_10 rfl ?_
      refine z_iload_n C 2 dJ7_fill_53178_11 rfl ?_
      refine z_iload_n C 1 dJ7_fill_53178_12 rfl ?_
      refine z_iastore C dJ7_fill_53178_13 (fun h_1 => ?_)
      refine z_iinc (v := x2 + (1 : Int32)) C 2 dJ7_fill_53178_14 [(2, .int (x2 + (1 : Int32))), (0, .ref a0), (1, .int x1), (3, .int x3)] rfl rfl (by decide) rfl ?_
      refine z_goto C 5 dJ7_fill_53178_17 rfl ?_
      exact z_lv _ [1, 2, 0, 3] rfl (hr5 _ a0 x1 (x2 + (1 : Int32)) x3)
def fJ7_fill_53178 (N : Nat) (h : AH) (a0 : Nat) (x1 : Int32) : Option (Unit × AH) :=
  (zlen h a0).bind fun v_1 =>
  zfix (fun _ _ _ _ _ => none) (bJ7_fill_53178_5 N) N h a0 x1 (0 : Int32) v_1
theorem kJ7_fill_53178 {l : Launch} {g : zG} (N : Nat) (h : AH) (a0 : Nat) (x1 : Int32) : zM l g yJ7_fill_53178 cJ7_fill_53178 4 none (1) 0 0 (fun _ : Unit => none) (fJ7_fill_53178 N h a0 x1) h [.ref a0, .int x1] := by
  refine zM.of (lv0 := [(0, .ref a0), (1, .int x1)]) (by decide) (Nat.le_of_ble_eq_true rfl) rfl (fun X hX C => ?_)
  subst hX
  unfold fJ7_fill_53178
  refine z_iconst (v := (0 : Int32)) C dJ7_fill_53178_0 rfl ?_
  refine z_istore_n C dJ7_fill_53178_1 [(2, .int (0 : Int32)), (0, .ref a0), (1, .int x1)] (by decide) rfl ?_
  refine z_aload_n C 1 dJ7_fill_53178_2 rfl ?_
  refine z_alen C dJ7_fill_53178_3 (fun v_1 => ?_)
  refine z_istore_n C dJ7_fill_53178_4 [(3, .int v_1), (2, .int (0 : Int32)), (0, .ref a0), (1, .int x1)] (by decide) rfl ?_
  exact z_lv _ [2, 3, 1, 0] rfl (tJ7_fill_53178_5 C N N _ a0 x1 (0 : Int32) v_1)
def fX5_valueOf (N : Nat) (h : AH) (x0 : Int32) (x1 : Int32) (x2 : Int32) (x3 : Int32) (x4 : Int32) : Option (Int32 × AH) :=
  (if x0 = (0 : Int32) then
  some (x1, h)
  else if x0 = (1 : Int32) then
  some (x2, h)
  else if x0 = (2 : Int32) then
  some (x3, h)
  else if x0 = (3 : Int32) then
  some (x4 - x4 / (7 : Int32) * (7 : Int32), h)
  else if x0 = (4 : Int32) then
  some (x4 - x4 / (10 : Int32) * (10 : Int32), h)
  else 
  some (x4 - x4 / (7 : Int32) * (7 : Int32), h))
theorem kX5_valueOf {l : Launch} {g : zG} (N : Nat) (h : AH) (x0 : Int32) (x1 : Int32) (x2 : Int32) (x3 : Int32) (x4 : Int32) : zM l g yX5_valueOf cX5_valueOf 5 (some .int) (1) 0 0 (fun v : Int32 => some (.int v)) (fX5_valueOf N h x0 x1 x2 x3 x4) h [.int x0, .int x1, .int x2, .int x3, .int x4] := by
  refine zM.of (lv0 := [(0, .int x0), (1, .int x1), (2, .int x2), (3, .int x3), (4, .int x4)]) (by decide) (Nat.le_of_ble_eq_true rfl) rfl (fun X hX C => ?_)
  subst hX
  unfold fX5_valueOf
  refine z_iload_n C 0 dX5_valueOf_0 rfl ?_
  refine z_ite (fun q_1 => ?_) (fun q_1 => ?_)
  · subst q_1
    refine z_table C 36 dX5_valueOf_1 (by decide) (by decide) rfl rfl ?_
    refine z_iload_n C 1 dX5_valueOf_36 rfl ?_
    exact z_ireturn C ⟨rfl, rfl⟩ dX5_valueOf_37
  refine z_ite (fun q_2 => ?_) (fun q_2 => ?_)
  · subst q_2
    refine z_table C 38 dX5_valueOf_1 (by decide) (by decide) rfl rfl ?_
    refine z_iload_n C 2 dX5_valueOf_38 rfl ?_
    exact z_ireturn C ⟨rfl, rfl⟩ dX5_valueOf_39
  refine z_ite (fun q_3 => ?_) (fun q_3 => ?_)
  · subst q_3
    refine z_table C 40 dX5_valueOf_1 (by decide) (by decide) rfl rfl ?_
    refine z_iload_n C 3 dX5_valueOf_40 rfl ?_
    exact z_ireturn C ⟨rfl, rfl⟩ dX5_valueOf_41
  refine z_ite (fun q_4 => ?_) (fun q_4 => ?_)
  · subst q_4
    refine z_table C 48 dX5_valueOf_1 (by decide) (by decide) rfl rfl ?_
    refine z_iload C 4 dX5_valueOf_48 rfl ?_
    refine z_bipush (v := (7 : Int32)) C dX5_valueOf_50 rfl ?_
    refine z_irem C dX5_valueOf_52 (by decide) ?_
    exact z_ireturn C ⟨rfl, rfl⟩ dX5_valueOf_53
  refine z_ite (fun q_5 => ?_) (fun q_5 => ?_)
  · subst q_5
    refine z_table C 42 dX5_valueOf_1 (by decide) (by decide) rfl rfl ?_
    refine z_iload C 4 dX5_valueOf_42 rfl ?_
    refine z_bipush (v := (10 : Int32)) C dX5_valueOf_44 rfl ?_
    refine z_irem C dX5_valueOf_46 (by decide) ?_
    exact z_ireturn C ⟨rfl, rfl⟩ dX5_valueOf_47
  refine z_tableO C 48 dX5_valueOf_1 (by have eq_1 := lv_neT (a := 0) q_1 rfl; have eq_2 := lv_neT (a := 1) q_2 rfl; have eq_3 := lv_neT (a := 2) q_3 rfl; have eq_4 := lv_neT (a := 3) q_4 rfl; have eq_5 := lv_neT (a := 4) q_5 rfl; omega) rfl ?_
  refine z_iload C 4 dX5_valueOf_48 rfl ?_
  refine z_bipush (v := (7 : Int32)) C dX5_valueOf_50 rfl ?_
  refine z_irem C dX5_valueOf_52 (by decide) ?_
  exact z_ireturn C ⟨rfl, rfl⟩ dX5_valueOf_53
def fX5_push (N : Nat) (h : AH) (a0 : Nat) (x1 : Int32) : Option (Unit × AH) :=
  (zgI h a0 5 4).bind fun v_1 =>
  (if v_1 < (0) then
  some ((), h)
  else
  (zgI h a0 5 4).bind fun v_2 =>
  (zgR h a0 5 3).bind fun a_3 =>
  (zlen h a_3).bind fun v_4 =>
  (if v_4 ≤ v_2 then
  some ((), h)
  else
  (zgR h a0 5 3).bind fun a_5 =>
  (zgI h a0 5 4).bind fun v_6 =>
  (zast 0 h a_5 v_6 x1).bind fun h_7 =>
  (zgI h_7 a0 5 4).bind fun v_8 =>
  (zput h_7 a0 5 4 (.int (v_8 + (1 : Int32)))).bind fun h_9 =>
  some ((), h_9)))
theorem kX5_push {l : Launch} {g : zG} (N : Nat) (h : AH) (a0 : Nat) (x1 : Int32) : zM l g yX5_push cX5_push 2 none (1) 0 0 (fun _ : Unit => none) (fX5_push N h a0 x1) h [.ref a0, .int x1] := by
  refine zM.of (lv0 := [(0, .ref a0), (1, .int x1)]) (by decide) (Nat.le_of_ble_eq_true rfl) rfl (fun X hX C => ?_)
  subst hX
  unfold fX5_push
  refine z_aload_n C 0 dX5_push_0 rfl ?_
  refine z_getI C qX5_25 dX5_push_1 (fun v_1 => ?_)
  refine z_iflt C 39 dX5_push_4 rfl ?_ ?_
  · exact z_return C ⟨rfl, rfl⟩ dX5_push_39
  · refine z_aload_n C 0 dX5_push_7 rfl ?_
    refine z_getI C qX5_25 dX5_push_8 (fun v_2 => ?_)
    refine z_aload_n C 0 dX5_push_11 rfl ?_
    refine z_getR C qX5_22 dX5_push_12 (fun a_3 => ?_)
    refine z_alen C dX5_push_15 (fun v_4 => ?_)
    refine z_icmpge C 39 dX5_push_16 rfl ?_ ?_
    · exact z_return C ⟨rfl, rfl⟩ dX5_push_39
    · refine z_aload_n C 0 dX5_push_19 rfl ?_
      refine z_getR C qX5_22 dX5_push_20 (fun a_5 => ?_)
      refine z_aload_n C 0 dX5_push_23 rfl ?_
      refine z_getI C qX5_25 dX5_push_24 (fun v_6 => ?_)
      refine z_iload_n C 1 dX5_push_27 rfl ?_
      refine z_iastore C dX5_push_28 (fun h_7 => ?_)
      refine z_aload_n C 0 dX5_push_29 rfl ?_
      refine z_dup C dX5_push_30 rfl ?_
      refine z_getI C qX5_25 dX5_push_31 (fun v_8 => ?_)
      refine z_iconst (v := (1 : Int32)) C dX5_push_34 rfl ?_
      refine z_iadd C dX5_push_35 ?_
      refine z_putI C pX5_25 dX5_push_36 (fun h_9 => ?_)
      exact z_return C ⟨rfl, rfl⟩ dX5_push_39
def fX5_pop (N : Nat) (h : AH) (a0 : Nat) : Option (Int32 × AH) :=
  (zgI h a0 5 4).bind fun v_1 =>
  (if v_1 ≤ (0) then
  some ((0 : Int32), h)
  else
  (zgI h a0 5 4).bind fun v_2 =>
  (zgR h a0 5 3).bind fun a_3 =>
  (zlen h a_3).bind fun v_4 =>
  (if v_2 ≤ v_4 then
  (zgI h a0 5 4).bind fun v_5 =>
  (zput h a0 5 4 (.int (v_5 - (1 : Int32)))).bind fun h_6 =>
  (zgR h_6 a0 5 3).bind fun a_7 =>
  (zgI h_6 a0 5 4).bind fun v_8 =>
  (zald 0 h_6 a_7 v_8).bind fun v_9 =>
  some (v_9, h_6)
  else
  some ((0 : Int32), h)))
theorem kX5_pop {l : Launch} {g : zG} (N : Nat) (h : AH) (a0 : Nat) : zM l g yX5_pop cX5_pop 1 (some .int) (1) 0 0 (fun v : Int32 => some (.int v)) (fX5_pop N h a0) h [.ref a0] := by
  refine zM.of (lv0 := [(0, .ref a0)]) (by decide) (Nat.le_of_ble_eq_true rfl) rfl (fun X hX C => ?_)
  subst hX
  unfold fX5_pop
  refine z_aload_n C 0 dX5_pop_0 rfl ?_
  refine z_getI C qX5_25 dX5_pop_1 (fun v_1 => ?_)
  refine z_ifle C 19 dX5_pop_4 rfl ?_ ?_
  · refine z_iconst (v := (0 : Int32)) C dX5_pop_19 rfl ?_
    exact z_ireturn C ⟨rfl, rfl⟩ dX5_pop_20
  · refine z_aload_n C 0 dX5_pop_7 rfl ?_
    refine z_getI C qX5_25 dX5_pop_8 (fun v_2 => ?_)
    refine z_aload_n C 0 dX5_pop_11 rfl ?_
    refine z_getR C qX5_22 dX5_pop_12 (fun a_3 => ?_)
    refine z_alen C dX5_pop_15 (fun v_4 => ?_)
    refine z_icmple C 21 dX5_pop_16 rfl ?_ ?_
    · refine z_aload_n C 0 dX5_pop_21 rfl ?_
      refine z_dup C dX5_pop_22 rfl ?_
      refine z_getI C qX5_25 dX5_pop_23 (fun v_5 => ?_)
      refine z_iconst (v := (1 : Int32)) C dX5_pop_26 rfl ?_
      refine z_isub C dX5_pop_27 ?_
      refine z_putI C pX5_25 dX5_pop_28 (fun h_6 => ?_)
      refine z_aload_n C 0 dX5_pop_31 rfl ?_
      refine z_getR C qX5_22 dX5_pop_32 (fun a_7 => ?_)
      refine z_aload_n C 0 dX5_pop_35 rfl ?_
      refine z_getI C qX5_25 dX5_pop_36 (fun v_8 => ?_)
      refine z_iaload C dX5_pop_39 (fun v_9 => ?_)
      exact z_ireturn C ⟨rfl, rfl⟩ dX5_pop_40
    · refine z_iconst (v := (0 : Int32)) C dX5_pop_19 rfl ?_
      exact z_ireturn C ⟨rfl, rfl⟩ dX5_pop_20
def bX5_addWeight_2 (N : Nat) (r2 : AH → Int32 → Int32 → Nat → Int32 → Option (Unit × AH)) (h : AH) (x0 : Int32) (x1 : Int32) (a2 : Nat) (x3 : Int32) : Option (Unit × AH) :=
  (zlen h a2).bind fun v_1 =>
  (if v_1 ≤ x3 then
  some ((), h)
  else
  (if (8 : Int32) ≤ x3 then
  some ((), h)
  else
  (if ((x0 >>> (x3 &&& 31)) &&& (1 : Int32)) = (0) then
  r2 h x0 x1 a2 (x3 + (1 : Int32))
  else
  (zald 0 h a2 x3).bind fun v_2 =>
  (zast 0 h a2 x3 (v_2 + x1)).bind fun h_3 =>
  r2 h_3 x0 x1 a2 (x3 + (1 : Int32)))))
theorem tX5_addWeight_2 {X : zX} {g : zG} (C : zC X g yX5_addWeight cX5_addWeight 4 1 0 0 none) (N : Nat) (n : Nat) : ∀ (h : AH) (x0 : Int32) (x1 : Int32) (a2 : Nat) (x3 : Int32), ZZ X g 4 (0, 0, 0, 0) (fun _ : Unit => none) (zfix (fun _ _ _ _ _ => none) (bX5_addWeight_2 N) n h x0 x1 a2 x3) h 2 [(0, .int x0), (1, .int x1), (2, .ref a2), (3, .int x3)] [] := by
  induction n with
  | zero => intro h x0 x1 a2 x3; exact z_none
  | succ n hr2 =>
    intro h x0 x1 a2 x3
    show ZZ X g 4 (0, 0, 0, 0) _ (bX5_addWeight_2 N (zfix (fun _ _ _ _ _ => none) (bX5_addWeight_2 N) n) h x0 x1 a2 x3) h 2 _ _
    unfold bX5_addWeight_2
    refine z_iload_n C 3 dX5_addWeight_2 rfl ?_
    refine z_aload_n C 2 dX5_addWeight_3 rfl ?_
    refine z_alen C dX5_addWeight_4 (fun v_1 => ?_)
    refine z_icmpge C 35 dX5_addWeight_5 rfl ?_ ?_
    · exact z_return C ⟨rfl, rfl⟩ dX5_addWeight_35
    · refine z_iload_n C 3 dX5_addWeight_8 rfl ?_
      refine z_bipush (v := (8 : Int32)) C dX5_addWeight_9 rfl ?_
      refine z_icmpge C 35 dX5_addWeight_11 rfl ?_ ?_
      · exact z_return C ⟨rfl, rfl⟩ dX5_addWeight_35
      · refine z_iload_n C 0 dX5_addWeight_14 rfl ?_
        refine z_iload_n C 3 dX5_addWeight_15 rfl ?_
        refine z_ishr C dX5_addWeight_16 ?_
        refine z_iconst (v := (1 : Int32)) C dX5_addWeight_17 rfl ?_
        refine z_iand C dX5_addWeight_18 ?_
        refine z_ifeq C 29 dX5_addWeight_19 rfl ?_ ?_
        · refine z_iinc (v := x3 + (1 : Int32)) C 3 dX5_addWeight_29 [(3, .int (x3 + (1 : Int32))), (0, .int x0), (1, .int x1), (2, .ref a2)] rfl rfl (by decide) rfl ?_
          refine z_goto C 2 dX5_addWeight_32 rfl ?_
          exact z_lv _ [1, 2, 3, 0] rfl (hr2 _ x0 x1 a2 (x3 + (1 : Int32)))
        · refine z_aload_n C 2 dX5_addWeight_22 rfl ?_
          refine z_iload_n C 3 dX5_addWeight_23 rfl ?_
          refine z_dup2 C dX5_addWeight_24 rfl rfl ?_
          refine z_iaload C dX5_addWeight_25 (fun v_2 => ?_)
          refine z_iload_n C 1 dX5_addWeight_26 rfl ?_
          refine z_iadd C dX5_addWeight_27 ?_
          refine z_iastore C dX5_addWeight_28 (fun h_3 => ?_)
          refine z_iinc (v := x3 + (1 : Int32)) C 3 dX5_addWeight_29 [(3, .int (x3 + (1 : Int32))), (0, .int x0), (1, .int x1), (2, .ref a2)] rfl rfl (by decide) rfl ?_
          refine z_goto C 2 dX5_addWeight_32 rfl ?_
          exact z_lv _ [1, 2, 3, 0] rfl (hr2 _ x0 x1 a2 (x3 + (1 : Int32)))
def fX5_addWeight (N : Nat) (h : AH) (x0 : Int32) (x1 : Int32) (a2 : Nat) : Option (Unit × AH) :=
  zfix (fun _ _ _ _ _ => none) (bX5_addWeight_2 N) N h x0 x1 a2 (0 : Int32)
theorem kX5_addWeight {l : Launch} {g : zG} (N : Nat) (h : AH) (x0 : Int32) (x1 : Int32) (a2 : Nat) : zM l g yX5_addWeight cX5_addWeight 4 none (1) 0 0 (fun _ : Unit => none) (fX5_addWeight N h x0 x1 a2) h [.int x0, .int x1, .ref a2] := by
  refine zM.of (lv0 := [(0, .int x0), (1, .int x1), (2, .ref a2)]) (by decide) (Nat.le_of_ble_eq_true rfl) rfl (fun X hX C => ?_)
  subst hX
  unfold fX5_addWeight
  refine z_iconst (v := (0 : Int32)) C dX5_addWeight_0 rfl ?_
  refine z_istore_n C dX5_addWeight_1 [(3, .int (0 : Int32)), (0, .int x0), (1, .int x1), (2, .ref a2)] (by decide) rfl ?_
  exact z_lv _ [1, 2, 3, 0] rfl (tX5_addWeight_2 C N N _ x0 x1 a2 (0 : Int32))
def fX5_join (N : Nat) (h : AH) (a0 : Nat) (x1 : Int32) (x2 : Int32) : Option (Unit × AH) :=
  (if x1 = (19 : Int32) then
  (zis h a0 5).bind fun _ =>
  zcall (fX5_pop N h a0) fun v_3 h_2 =>
  (zis h_2 a0 5).bind fun _ =>
  zcall (fX5_pop N h_2 a0) fun v_6 h_5 =>
  (zis h_5 a0 5).bind fun _ =>
  zcall (fX5_push N h_5 a0 (v_3 &&& v_6)) fun _ h_8 =>
  some ((), h_8)
  else if x1 = (20 : Int32) then
  (zis h a0 5).bind fun _ =>
  zcall (fX5_pop N h a0) fun v_12 h_11 =>
  (zis h_11 a0 5).bind fun _ =>
  zcall (fX5_pop N h_11 a0) fun v_15 h_14 =>
  (zis h_14 a0 5).bind fun _ =>
  zcall (fX5_push N h_14 a0 (v_12 ||| v_15)) fun _ h_17 =>
  some ((), h_17)
  else if x1 = (21 : Int32) then
  (zis h a0 5).bind fun _ =>
  zcall (fX5_pop N h a0) fun v_21 h_20 =>
  (zis h_20 a0 5).bind fun _ =>
  zcall (fX5_push N h_20 a0 ((255 : Int32) &&& (v_21 ^^^ (-1 : Int32)))) fun _ h_23 =>
  some ((), h_23)
  else 
  (zis h a0 5).bind fun _ =>
  zcall (fX5_push N h a0 x2) fun _ h_25 =>
  some ((), h_25))
theorem kX5_join {l : Launch} {g : zG} (N : Nat) (h : AH) (a0 : Nat) (x1 : Int32) (x2 : Int32) : zM l g yX5_join cX5_join 3 none (2) 0 0 (fun _ : Unit => none) (fX5_join N h a0 x1 x2) h [.ref a0, .int x1, .int x2] := by
  refine zM.of (lv0 := [(0, .ref a0), (1, .int x1), (2, .int x2)]) (by decide) (Nat.le_of_ble_eq_true rfl) rfl (fun X hX C => ?_)
  subst hX
  unfold fX5_join
  refine z_iload_n C 1 dX5_join_0 rfl ?_
  refine z_ite (fun q_1 => ?_) (fun q_1 => ?_)
  · subst q_1
    refine z_table C 28 dX5_join_1 (by decide) (by decide) rfl rfl ?_
    refine z_aload_n C 0 dX5_join_28 rfl ?_
    refine z_aload_n C 0 dX5_join_29 rfl ?_
    refine z_bind (fun _ q_4 => ?_)
    refine z_calli (z_runV (As := []) (rest := [.ref a0]) C mX5_133 (kX5_pop N h a0) q_4 (Nat.le_of_ble_eq_true rfl) ⟨Nat.zero_le _, Nat.zero_le _⟩ dX5_join_30 rfl rfl (Nat.le_of_ble_eq_true rfl)) rfl (fun v_3 h_2 => ?_)
    refine z_aload_n C 0 dX5_join_33 rfl ?_
    refine z_bind (fun _ q_7 => ?_)
    refine z_calli (z_runV (As := []) (rest := [.int v_3, .ref a0]) C mX5_133 (kX5_pop N h_2 a0) q_7 (Nat.le_of_ble_eq_true rfl) ⟨Nat.zero_le _, Nat.zero_le _⟩ dX5_join_34 rfl rfl (Nat.le_of_ble_eq_true rfl)) rfl (fun v_6 h_5 => ?_)
    refine z_iand C dX5_join_37 ?_
    refine z_bind (fun _ q_9 => ?_)
    refine z_callv (z_runV (As := [.int (v_3 &&& v_6)]) (rest := []) C mX5_129 (kX5_push N h_5 a0 (v_3 &&& v_6)) q_9 (Nat.le_of_ble_eq_true rfl) ⟨Nat.zero_le _, Nat.zero_le _⟩ dX5_join_38 rfl rfl (Nat.le_of_ble_eq_true rfl)) rfl (fun _ h_8 => ?_)
    refine z_goto C 82 dX5_join_41 rfl ?_
    exact z_return C ⟨rfl, rfl⟩ dX5_join_82
  refine z_ite (fun q_10 => ?_) (fun q_10 => ?_)
  · subst q_10
    refine z_table C 44 dX5_join_1 (by decide) (by decide) rfl rfl ?_
    refine z_aload_n C 0 dX5_join_44 rfl ?_
    refine z_aload_n C 0 dX5_join_45 rfl ?_
    refine z_bind (fun _ q_13 => ?_)
    refine z_calli (z_runV (As := []) (rest := [.ref a0]) C mX5_133 (kX5_pop N h a0) q_13 (Nat.le_of_ble_eq_true rfl) ⟨Nat.zero_le _, Nat.zero_le _⟩ dX5_join_46 rfl rfl (Nat.le_of_ble_eq_true rfl)) rfl (fun v_12 h_11 => ?_)
    refine z_aload_n C 0 dX5_join_49 rfl ?_
    refine z_bind (fun _ q_16 => ?_)
    refine z_calli (z_runV (As := []) (rest := [.int v_12, .ref a0]) C mX5_133 (kX5_pop N h_11 a0) q_16 (Nat.le_of_ble_eq_true rfl) ⟨Nat.zero_le _, Nat.zero_le _⟩ dX5_join_50 rfl rfl (Nat.le_of_ble_eq_true rfl)) rfl (fun v_15 h_14 => ?_)
    refine z_ior C dX5_join_53 ?_
    refine z_bind (fun _ q_18 => ?_)
    refine z_callv (z_runV (As := [.int (v_12 ||| v_15)]) (rest := []) C mX5_129 (kX5_push N h_14 a0 (v_12 ||| v_15)) q_18 (Nat.le_of_ble_eq_true rfl) ⟨Nat.zero_le _, Nat.zero_le _⟩ dX5_join_54 rfl rfl (Nat.le_of_ble_eq_true rfl)) rfl (fun _ h_17 => ?_)
    refine z_goto C 82 dX5_join_57 rfl ?_
    exact z_return C ⟨rfl, rfl⟩ dX5_join_82
  refine z_ite (fun q_19 => ?_) (fun q_19 => ?_)
  · subst q_19
    refine z_table C 60 dX5_join_1 (by decide) (by decide) rfl rfl ?_
    refine z_aload_n C 0 dX5_join_60 rfl ?_
    refine z_sipush (v := (255 : Int32)) C dX5_join_61 rfl ?_
    refine z_aload_n C 0 dX5_join_64 rfl ?_
    refine z_bind (fun _ q_22 => ?_)
    refine z_calli (z_runV (As := []) (rest := [.int (255 : Int32), .ref a0]) C mX5_133 (kX5_pop N h a0) q_22 (Nat.le_of_ble_eq_true rfl) ⟨Nat.zero_le _, Nat.zero_le _⟩ dX5_join_65 rfl rfl (Nat.le_of_ble_eq_true rfl)) rfl (fun v_21 h_20 => ?_)
    refine z_iconst (v := (-1 : Int32)) C dX5_join_68 rfl ?_
    refine z_ixor C dX5_join_69 ?_
    refine z_iand C dX5_join_70 ?_
    refine z_bind (fun _ q_24 => ?_)
    refine z_callv (z_runV (As := [.int ((255 : Int32) &&& (v_21 ^^^ (-1 : Int32)))]) (rest := []) C mX5_129 (kX5_push N h_20 a0 ((255 : Int32) &&& (v_21 ^^^ (-1 : Int32)))) q_24 (Nat.le_of_ble_eq_true rfl) ⟨Nat.zero_le _, Nat.zero_le _⟩ dX5_join_71 rfl rfl (Nat.le_of_ble_eq_true rfl)) rfl (fun _ h_23 => ?_)
    refine z_goto C 82 dX5_join_74 rfl ?_
    exact z_return C ⟨rfl, rfl⟩ dX5_join_82
  refine z_tableO C 77 dX5_join_1 (by have eq_1 := lv_neT (a := 19) q_1 rfl; have eq_10 := lv_neT (a := 20) q_10 rfl; have eq_19 := lv_neT (a := 21) q_19 rfl; omega) rfl ?_
  refine z_aload_n C 0 dX5_join_77 rfl ?_
  refine z_iload_n C 2 dX5_join_78 rfl ?_
  refine z_bind (fun _ q_26 => ?_)
  refine z_callv (z_runV (As := [.int x2]) (rest := []) C mX5_129 (kX5_push N h a0 x2) q_26 (Nat.le_of_ble_eq_true rfl) ⟨Nat.zero_le _, Nat.zero_le _⟩ dX5_join_79 rfl rfl (Nat.le_of_ble_eq_true rfl)) rfl (fun _ h_25 => ?_)
  exact z_return C ⟨rfl, rfl⟩ dX5_join_82
def bX5_weigh_14 (N : Nat) (r14 : AH → Nat → Int32 → Int32 → Int32 → Int32 → Nat → Int32 → Option (Unit × AH)) (h : AH) (a0 : Nat) (x1 : Int32) (x2 : Int32) (x3 : Int32) (x4 : Int32) (a5 : Nat) (x6 : Int32) : Option (Unit × AH) :=
  (zgI h a0 5 2).bind fun v_1 =>
  (if v_1 ≤ x6 then
  some ((), h)
  else
  (zgR h a0 5 1).bind fun a_2 =>
  (zald 0 h a_2 x6).bind fun v_3 =>
  znm (v_3 / (256 : Int32)) fun y_4 =>
  (zgR h a0 5 1).bind fun a_5 =>
  (zald 0 h a_5 x6).bind fun v_6 =>
  znm (v_6 - v_6 / (256 : Int32) * (256 : Int32)) fun y_7 =>
  (if (18 : Int32) ≤ y_4 then
  (if y_4 = (22 : Int32) then
  (zis h a0 5).bind fun _ =>
  zcall (fX5_pop N h a0) fun v_15 h_14 =>
  zcall (fX5_addWeight N h_14 v_15 y_7 a5) fun _ h_17 =>
  r14 h_17 a0 x1 x2 x3 x4 a5 (x6 + (1 : Int32))
  else
  (if y_4 = (23 : Int32) then
  (zis h a0 5).bind fun _ =>
  zcall (fX5_pop N h a0) fun v_11 h_10 =>
  zcall (fX5_addWeight N h_10 v_11 (-y_7) a5) fun _ h_13 =>
  r14 h_13 a0 x1 x2 x3 x4 a5 (x6 + (1 : Int32))
  else
  (zis h a0 5).bind fun _ =>
  zcall (fX5_join N h a0 y_4 y_7) fun _ h_8 =>
  r14 h_8 a0 x1 x2 x3 x4 a5 (x6 + (1 : Int32))))
  else
  zcall (fX5_valueOf N h (y_4 / (3 : Int32)) x1 x2 x3 x4) fun v_19 h_18 =>
  zcall (fX5_compares N h_18 v_19 (y_4 - y_4 / (3 : Int32) * (3 : Int32)) y_7) fun v_21 h_20 =>
  (if v_21 = (0) then
  (zis h_20 a0 5).bind fun _ =>
  zcall (fX5_push N h_20 a0 (0 : Int32)) fun _ h_22 =>
  r14 h_22 a0 x1 x2 x3 x4 a5 (x6 + (1 : Int32))
  else
  (zis h_20 a0 5).bind fun _ =>
  zcall (fX5_push N h_20 a0 (255 : Int32)) fun _ h_24 =>
  r14 h_24 a0 x1 x2 x3 x4 a5 (x6 + (1 : Int32)))))
theorem tX5_weigh_14 {X : zX} {g : zG} (C : zC X g yX5_weigh cX5_weigh 10 3 0 0 none) (N : Nat) (n : Nat) : ∀ (h : AH) (a0 : Nat) (x1 : Int32) (x2 : Int32) (x3 : Int32) (x4 : Int32) (a5 : Nat) (x6 : Int32), ZZ X g 10 (0, 0, 0, 0) (fun _ : Unit => none) (zfix (fun _ _ _ _ _ _ _ _ => none) (bX5_weigh_14 N) n h a0 x1 x2 x3 x4 a5 x6) h 14 [(0, .ref a0), (1, .int x1), (2, .int x2), (3, .int x3), (4, .int x4), (5, .ref a5), (6, .int x6)] [] := by
  induction n with
  | zero => intro h a0 x1 x2 x3 x4 a5 x6; exact z_none
  | succ n hr14 =>
    intro h a0 x1 x2 x3 x4 a5 x6
    show ZZ X g 10 (0, 0, 0, 0) _ (bX5_weigh_14 N (zfix (fun _ _ _ _ _ _ _ _ => none) (bX5_weigh_14 N) n) h a0 x1 x2 x3 x4 a5 x6) h 14 _ _
    unfold bX5_weigh_14
    refine z_iload C 6 dX5_weigh_14 rfl ?_
    refine z_aload_n C 0 dX5_weigh_16 rfl ?_
    refine z_getI C qX5_19 dX5_weigh_17 (fun v_1 => ?_)
    refine z_icmpge C 155 dX5_weigh_20 rfl ?_ ?_
    · exact z_return C ⟨rfl, rfl⟩ dX5_weigh_155
    · refine z_aload_n C 0 dX5_weigh_23 rfl ?_
      refine z_getR C qX5_15 dX5_weigh_24 (fun a_2 => ?_)
      refine z_iload C 6 dX5_weigh_27 rfl ?_
      refine z_iaload C dX5_weigh_29 (fun v_3 => ?_)
      refine z_sipush (v := (256 : Int32)) C dX5_weigh_30 rfl ?_
      refine z_idiv C dX5_weigh_33 (by decide) ?_
      refine z_nmI (fun y_4 => ?_)
      refine z_istore C dX5_weigh_34 [(7, .int y_4), (0, .ref a0), (1, .int x1), (2, .int x2), (3, .int x3), (4, .int x4), (5, .ref a5), (6, .int x6)] (by decide) rfl ?_
      refine z_aload_n C 1 dX5_weigh_36 rfl ?_
      refine z_getR C qX5_15 dX5_weigh_37 (fun a_5 => ?_)
      refine z_iload C 7 dX5_weigh_40 rfl ?_
      refine z_iaload C dX5_weigh_42 (fun v_6 => ?_)
      refine z_sipush (v := (256 : Int32)) C dX5_weigh_43 rfl ?_
      refine z_irem C dX5_weigh_46 (by decide) ?_
      refine z_nmI (fun y_7 => ?_)
      refine z_istore C dX5_weigh_47 [(8, .int y_7), (7, .int y_4), (0, .ref a0), (1, .int x1), (2, .int x2), (3, .int x3), (4, .int x4), (5, .ref a5), (6, .int x6)] (by decide) rfl ?_
      refine z_iload C 1 dX5_weigh_49 rfl ?_
      refine z_bipush (v := (18 : Int32)) C dX5_weigh_51 rfl ?_
      refine z_icmpge C 98 dX5_weigh_53 rfl ?_ ?_
      · refine z_iload C 1 dX5_weigh_98 rfl ?_
        refine z_bipush (v := (22 : Int32)) C dX5_weigh_100 rfl ?_
        refine z_icmpne C 119 dX5_weigh_102 rfl ?_ ?_
        · refine z_iload C 1 dX5_weigh_119 rfl ?_
          refine z_bipush (v := (23 : Int32)) C dX5_weigh_121 rfl ?_
          refine z_icmpne C 141 dX5_weigh_123 rfl ?_ ?_
          · refine z_aload_n C 2 dX5_weigh_141 rfl ?_
            refine z_iload C 1 dX5_weigh_142 rfl ?_
            refine z_iload C 0 dX5_weigh_144 rfl ?_
            refine z_bind (fun _ q_9 => ?_)
            refine z_callv (z_runV (As := [.int y_4, .int y_7]) (rest := []) C mX5_140 (kX5_join N h a0 y_4 y_7) q_9 (Nat.le_of_ble_eq_true rfl) ⟨Nat.zero_le _, Nat.zero_le _⟩ dX5_weigh_146 rfl rfl (Nat.le_of_ble_eq_true rfl)) rfl (fun _ h_8 => ?_)
            refine z_iinc (v := x6 + (1 : Int32)) C 8 dX5_weigh_149 [(6, .int (x6 + (1 : Int32))), (8, .int y_7), (7, .int y_4), (0, .ref a0), (1, .int x1), (2, .int x2), (3, .int x3), (4, .int x4), (5, .ref a5)] rfl rfl (by decide) rfl ?_
            refine z_goto C 14 dX5_weigh_152 rfl ?_
            exact z_lv _ [3, 4, 5, 6, 7, 8, 0] rfl (hr14 _ a0 x1 x2 x3 x4 a5 (x6 + (1 : Int32)))
          · refine z_aload_n C 2 dX5_weigh_126 rfl ?_
            refine z_bind (fun _ q_12 => ?_)
            refine z_calli (z_runV (As := []) (rest := []) C mX5_133 (kX5_pop N h a0) q_12 (Nat.le_of_ble_eq_true rfl) ⟨Nat.zero_le _, Nat.zero_le _⟩ dX5_weigh_127 rfl rfl (Nat.le_of_ble_eq_true rfl)) rfl (fun v_11 h_10 => ?_)
            refine z_iload C 0 dX5_weigh_130 rfl ?_
            refine z_ineg C dX5_weigh_132 ?_
            refine z_aload C 7 dX5_weigh_133 rfl ?_
            refine z_callv (z_runS (As := [.int v_11, .int (-y_7), .ref a5]) (rest := []) C mX5_136 (kX5_addWeight N h_10 v_11 (-y_7) a5) (Nat.le_of_ble_eq_true rfl) ⟨Nat.zero_le _, Nat.zero_le _⟩ dX5_weigh_135 rfl rfl (Nat.le_of_ble_eq_true rfl)) rfl (fun _ h_13 => ?_)
            refine z_goto C 149 dX5_weigh_138 rfl ?_
            refine z_iinc (v := x6 + (1 : Int32)) C 8 dX5_weigh_149 [(6, .int (x6 + (1 : Int32))), (8, .int y_7), (7, .int y_4), (0, .ref a0), (1, .int x1), (2, .int x2), (3, .int x3), (4, .int x4), (5, .ref a5)] rfl rfl (by decide) rfl ?_
            refine z_goto C 14 dX5_weigh_152 rfl ?_
            exact z_lv _ [3, 4, 5, 6, 7, 8, 0] rfl (hr14 _ a0 x1 x2 x3 x4 a5 (x6 + (1 : Int32)))
        · refine z_aload_n C 2 dX5_weigh_105 rfl ?_
          refine z_bind (fun _ q_16 => ?_)
          refine z_calli (z_runV (As := []) (rest := []) C mX5_133 (kX5_pop N h a0) q_16 (Nat.le_of_ble_eq_true rfl) ⟨Nat.zero_le _, Nat.zero_le _⟩ dX5_weigh_106 rfl rfl (Nat.le_of_ble_eq_true rfl)) rfl (fun v_15 h_14 => ?_)
          refine z_iload C 0 dX5_weigh_109 rfl ?_
          refine z_aload C 7 dX5_weigh_111 rfl ?_
          refine z_callv (z_runS (As := [.int v_15, .int y_7, .ref a5]) (rest := []) C mX5_136 (kX5_addWeight N h_14 v_15 y_7 a5) (Nat.le_of_ble_eq_true rfl) ⟨Nat.zero_le _, Nat.zero_le _⟩ dX5_weigh_113 rfl rfl (Nat.le_of_ble_eq_true rfl)) rfl (fun _ h_17 => ?_)
          refine z_goto C 149 dX5_weigh_116 rfl ?_
          refine z_iinc (v := x6 + (1 : Int32)) C 8 dX5_weigh_149 [(6, .int (x6 + (1 : Int32))), (8, .int y_7), (7, .int y_4), (0, .ref a0), (1, .int x1), (2, .int x2), (3, .int x3), (4, .int x4), (5, .ref a5)] rfl rfl (by decide) rfl ?_
          refine z_goto C 14 dX5_weigh_152 rfl ?_
          exact z_lv _ [3, 4, 5, 6, 7, 8, 0] rfl (hr14 _ a0 x1 x2 x3 x4 a5 (x6 + (1 : Int32)))
      · refine z_iload C 1 dX5_weigh_56 rfl ?_
        refine z_iconst (v := (3 : Int32)) C dX5_weigh_58 rfl ?_
        refine z_idiv C dX5_weigh_59 (by decide) ?_
        refine z_iload_n C 3 dX5_weigh_60 rfl ?_
        refine z_iload_n C 4 dX5_weigh_61 rfl ?_
        refine z_iload_n C 5 dX5_weigh_62 rfl ?_
        refine z_iload C 6 dX5_weigh_63 rfl ?_
        refine z_calli (z_runS (As := [.int (y_4 / (3 : Int32)), .int x1, .int x2, .int x3, .int x4]) (rest := []) C mX5_125 (kX5_valueOf N h (y_4 / (3 : Int32)) x1 x2 x3 x4) (Nat.le_of_ble_eq_true rfl) ⟨Nat.zero_le _, Nat.zero_le _⟩ dX5_weigh_65 rfl rfl (Nat.le_of_ble_eq_true rfl)) rfl (fun v_19 h_18 => ?_)
        refine z_istore C dX5_weigh_68 [(9, .int v_19), (8, .int y_7), (7, .int y_4), (0, .ref a0), (1, .int x1), (2, .int x2), (3, .int x3), (4, .int x4), (5, .ref a5), (6, .int x6)] (by decide) rfl ?_
        refine z_aload_n C 3 dX5_weigh_70 rfl ?_
        refine z_iload C 0 dX5_weigh_71 rfl ?_
        refine z_iload C 2 dX5_weigh_73 rfl ?_
        refine z_iconst (v := (3 : Int32)) C dX5_weigh_75 rfl ?_
        refine z_irem C dX5_weigh_76 (by decide) ?_
        refine z_iload C 1 dX5_weigh_77 rfl ?_
        refine z_calli (z_runS (As := [.int v_19, .int (y_4 - y_4 / (3 : Int32) * (3 : Int32)), .int y_7]) (rest := [.ref a0]) C mX5_115 (kX5_compares N h_18 v_19 (y_4 - y_4 / (3 : Int32) * (3 : Int32)) y_7) (Nat.le_of_ble_eq_true rfl) ⟨Nat.zero_le _, Nat.zero_le _⟩ dX5_weigh_79 rfl rfl (Nat.le_of_ble_eq_true rfl)) rfl (fun v_21 h_20 => ?_)
        refine z_ifeq C 91 dX5_weigh_82 rfl ?_ ?_
        · refine z_iconst (v := (0 : Int32)) C dX5_weigh_91 rfl ?_
          refine z_bind (fun _ q_23 => ?_)
          refine z_callv (z_runV (As := [.int (0 : Int32)]) (rest := []) C mX5_129 (kX5_push N h_20 a0 (0 : Int32)) q_23 (Nat.le_of_ble_eq_true rfl) ⟨Nat.zero_le _, Nat.zero_le _⟩ dX5_weigh_92 rfl rfl (Nat.le_of_ble_eq_true rfl)) rfl (fun _ h_22 => ?_)
          refine z_goto C 149 dX5_weigh_95 rfl ?_
          refine z_iinc (v := x6 + (1 : Int32)) C 9 dX5_weigh_149 [(6, .int (x6 + (1 : Int32))), (9, .int v_19), (8, .int y_7), (7, .int y_4), (0, .ref a0), (1, .int x1), (2, .int x2), (3, .int x3), (4, .int x4), (5, .ref a5)] rfl rfl (by decide) rfl ?_
          refine z_goto C 14 dX5_weigh_152 rfl ?_
          exact z_lv _ [4, 5, 6, 7, 8, 9, 0] rfl (hr14 _ a0 x1 x2 x3 x4 a5 (x6 + (1 : Int32)))
        · refine z_sipush (v := (255 : Int32)) C dX5_weigh_85 rfl ?_
          refine z_goto C 92 dX5_weigh_88 rfl ?_
          refine z_bind (fun _ q_25 => ?_)
          refine z_callv (z_runV (As := [.int (255 : Int32)]) (rest := []) C mX5_129 (kX5_push N h_20 a0 (255 : Int32)) q_25 (Nat.le_of_ble_eq_true rfl) ⟨Nat.zero_le _, Nat.zero_le _⟩ dX5_weigh_92 rfl rfl (Nat.le_of_ble_eq_true rfl)) rfl (fun _ h_24 => ?_)
          refine z_goto C 149 dX5_weigh_95 rfl ?_
          refine z_iinc (v := x6 + (1 : Int32)) C 9 dX5_weigh_149 [(6, .int (x6 + (1 : Int32))), (9, .int v_19), (8, .int y_7), (7, .int y_4), (0, .ref a0), (1, .int x1), (2, .int x2), (3, .int x3), (4, .int x4), (5, .ref a5)] rfl rfl (by decide) rfl ?_
          refine z_goto C 14 dX5_weigh_152 rfl ?_
          exact z_lv _ [4, 5, 6, 7, 8, 9, 0] rfl (hr14 _ a0 x1 x2 x3 x4 a5 (x6 + (1 : Int32)))
def fX5_weigh (N : Nat) (h : AH) (a0 : Nat) (x1 : Int32) (x2 : Int32) (x3 : Int32) (x4 : Int32) (a5 : Nat) : Option (Unit × AH) :=
  zcall (fJ7_fill_53178 N h a5 (1 : Int32)) fun _ h_1 =>
  (zput h_1 a0 5 4 (.int (0 : Int32))).bind fun h_2 =>
  zfix (fun _ _ _ _ _ _ _ _ => none) (bX5_weigh_14 N) N h_2 a0 x1 x2 x3 x4 a5 (0 : Int32)
theorem kX5_weigh {l : Launch} {g : zG} (N : Nat) (h : AH) (a0 : Nat) (x1 : Int32) (x2 : Int32) (x3 : Int32) (x4 : Int32) (a5 : Nat) : zM l g yX5_weigh cX5_weigh 10 none (3) 0 0 (fun _ : Unit => none) (fX5_weigh N h a0 x1 x2 x3 x4 a5) h [.ref a0, .int x1, .int x2, .int x3, .int x4, .ref a5] := by
  refine zM.of (lv0 := [(0, .ref a0), (1, .int x1), (2, .int x2), (3, .int x3), (4, .int x4), (5, .ref a5)]) (by decide) (Nat.le_of_ble_eq_true rfl) rfl (fun X hX C => ?_)
  subst hX
  unfold fX5_weigh
  refine z_aload C 5 dX5_weigh_0 rfl ?_
  refine z_iconst (v := (1 : Int32)) C dX5_weigh_2 rfl ?_
  refine z_callv (z_runS (As := [.ref a5, .int (1 : Int32)]) (rest := []) C mX5_119 (kJ7_fill_53178 N h a5 (1 : Int32)) (Nat.le_of_ble_eq_true rfl) ⟨Nat.zero_le _, Nat.zero_le _⟩ dX5_weigh_3 rfl rfl (Nat.le_of_ble_eq_true rfl)) rfl (fun _ h_1 => ?_)
  refine z_aload_n C 0 dX5_weigh_6 rfl ?_
  refine z_iconst (v := (0 : Int32)) C dX5_weigh_7 rfl ?_
  refine z_putI C pX5_25 dX5_weigh_8 (fun h_2 => ?_)
  refine z_iconst (v := (0 : Int32)) C dX5_weigh_11 rfl ?_
  refine z_istore C dX5_weigh_12 [(6, .int (0 : Int32)), (0, .ref a0), (1, .int x1), (2, .int x2), (3, .int x3), (4, .int x4), (5, .ref a5)] (by decide) rfl ?_
  exact z_lv _ [1, 2, 3, 4, 5, 6, 0] rfl (tX5_weigh_14 C N N _ a0 x1 x2 x3 x4 a5 (0 : Int32))
def fX6_hasMaster (N : Nat) (h : AH) (a0 : Nat) (x1 : Int32) : Option (Int32 × AH) :=
  (if x1 < (0) then
  zret .boolean (0 : Int32) h
  else
  (zgI h a0 6 0).bind fun v_1 =>
  (if v_1 ≤ x1 then
  zret .boolean (0 : Int32) h
  else
  zret .boolean (1 : Int32) h))
theorem kX6_hasMaster {l : Launch} {g : zG} (N : Nat) (h : AH) (a0 : Nat) (x1 : Int32) : zM l g yX6_hasMaster cX6_hasMaster 2 (some .boolean) (1) 0 0 (fun v : Int32 => some (.int v)) (fX6_hasMaster N h a0 x1) h [.ref a0, .int x1] := by
  refine zM.of (lv0 := [(0, .ref a0), (1, .int x1)]) (by decide) (Nat.le_of_ble_eq_true rfl) rfl (fun X hX C => ?_)
  subst hX
  unfold fX6_hasMaster
  refine z_iload_n C 1 dX6_hasMaster_0 rfl ?_
  refine z_iflt C 16 dX6_hasMaster_1 rfl ?_ ?_
  · refine z_iconst (v := (0 : Int32)) C dX6_hasMaster_16 rfl ?_
    exact z_zreturn C ⟨rfl, rfl⟩ dX6_hasMaster_17
  · refine z_iload_n C 1 dX6_hasMaster_4 rfl ?_
    refine z_aload_n C 0 dX6_hasMaster_5 rfl ?_
    refine z_getI C qX6_9 dX6_hasMaster_6 (fun v_1 => ?_)
    refine z_icmpge C 16 dX6_hasMaster_9 rfl ?_ ?_
    · refine z_iconst (v := (0 : Int32)) C dX6_hasMaster_16 rfl ?_
      exact z_zreturn C ⟨rfl, rfl⟩ dX6_hasMaster_17
    · refine z_iconst (v := (1 : Int32)) C dX6_hasMaster_12 rfl ?_
      refine z_goto C 17 dX6_hasMaster_13 rfl ?_
      exact z_zreturn C ⟨rfl, rfl⟩ dX6_hasMaster_17
def fX6_hasFootman (N : Nat) (h : AH) (a0 : Nat) (x1 : Int32) : Option (Int32 × AH) :=
  (if x1 < (0) then
  zret .boolean (0 : Int32) h
  else
  (zgI h a0 6 9).bind fun v_1 =>
  (if v_1 ≤ x1 then
  zret .boolean (0 : Int32) h
  else
  zret .boolean (1 : Int32) h))
theorem kX6_hasFootman {l : Launch} {g : zG} (N : Nat) (h : AH) (a0 : Nat) (x1 : Int32) : zM l g yX6_hasFootman cX6_hasFootman 2 (some .boolean) (1) 0 0 (fun v : Int32 => some (.int v)) (fX6_hasFootman N h a0 x1) h [.ref a0, .int x1] := by
  refine zM.of (lv0 := [(0, .ref a0), (1, .int x1)]) (by decide) (Nat.le_of_ble_eq_true rfl) rfl (fun X hX C => ?_)
  subst hX
  unfold fX6_hasFootman
  refine z_iload_n C 1 dX6_hasFootman_0 rfl ?_
  refine z_iflt C 16 dX6_hasFootman_1 rfl ?_ ?_
  · refine z_iconst (v := (0 : Int32)) C dX6_hasFootman_16 rfl ?_
    exact z_zreturn C ⟨rfl, rfl⟩ dX6_hasFootman_17
  · refine z_iload_n C 1 dX6_hasFootman_4 rfl ?_
    refine z_aload_n C 0 dX6_hasFootman_5 rfl ?_
    refine z_getI C qX6_40 dX6_hasFootman_6 (fun v_1 => ?_)
    refine z_icmpge C 16 dX6_hasFootman_9 rfl ?_ ?_
    · refine z_iconst (v := (0 : Int32)) C dX6_hasFootman_16 rfl ?_
      exact z_zreturn C ⟨rfl, rfl⟩ dX6_hasFootman_17
    · refine z_iconst (v := (1 : Int32)) C dX6_hasFootman_12 rfl ?_
      refine z_goto C 17 dX6_hasFootman_13 rfl ?_
      exact z_zreturn C ⟨rfl, rfl⟩ dX6_hasFootman_17
def fX6_isOut (N : Nat) (h : AH) (a0 : Nat) (x1 : Int32) : Option (Int32 × AH) :=
  (zgI h a0 6 11).bind fun v_1 =>
  (if ((v_1 >>> (x1 &&& 31)) &&& (1 : Int32)) = (0) then
  zret .boolean (0 : Int32) h
  else
  zret .boolean (1 : Int32) h)
theorem kX6_isOut {l : Launch} {g : zG} (N : Nat) (h : AH) (a0 : Nat) (x1 : Int32) : zM l g yX6_isOut cX6_isOut 2 (some .boolean) (1) 0 0 (fun v : Int32 => some (.int v)) (fX6_isOut N h a0 x1) h [.ref a0, .int x1] := by
  refine zM.of (lv0 := [(0, .ref a0), (1, .int x1)]) (by decide) (Nat.le_of_ble_eq_true rfl) rfl (fun X hX C => ?_)
  subst hX
  unfold fX6_isOut
  refine z_aload_n C 0 dX6_isOut_0 rfl ?_
  refine z_getI C qX6_46 dX6_isOut_1 (fun v_1 => ?_)
  refine z_iload_n C 1 dX6_isOut_4 rfl ?_
  refine z_ishr C dX6_isOut_5 ?_
  refine z_iconst (v := (1 : Int32)) C dX6_isOut_6 rfl ?_
  refine z_iand C dX6_isOut_7 ?_
  refine z_ifeq C 15 dX6_isOut_8 rfl ?_ ?_
  · refine z_iconst (v := (0 : Int32)) C dX6_isOut_15 rfl ?_
    exact z_zreturn C ⟨rfl, rfl⟩ dX6_isOut_16
  · refine z_iconst (v := (1 : Int32)) C dX6_isOut_11 rfl ?_
    refine z_goto C 16 dX6_isOut_12 rfl ?_
    exact z_zreturn C ⟨rfl, rfl⟩ dX6_isOut_16
def bX6_addMaster_44 (N : Nat) (r44 : AH → Nat → Int32 → Option (Int32 × AH)) (h : AH) (a0 : Nat) (x3 : Int32) : Option (Int32 × AH) :=
  (if (4 : Int32) ≤ x3 then
  (zgI h a0 6 0).bind fun v_1 =>
  (zput h a0 6 0 (.int (v_1 + (1 : Int32)))).bind fun h_2 =>
  (zgI h_2 a0 6 0).bind fun v_3 =>
  some (v_3 - (1 : Int32), h_2)
  else
  (zgR h a0 6 4).bind fun a_4 =>
  (zgI h a0 6 0).bind fun v_5 =>
  (zast 0 h a_4 ((v_5 * (4 : Int32)) + x3) (0 : Int32)).bind fun h_6 =>
  r44 h_6 a0 (x3 + (1 : Int32)))
theorem tX6_addMaster_44 {X : zX} {g : zG} (C : zC X g yX6_addMaster cX6_addMaster 4 1 0 0 (some .int)) (N : Nat) (n : Nat) : ∀ (h : AH) (a0 : Nat) (x3 : Int32), ZZ X g 4 (0, 0, 0, 0) (fun v : Int32 => some (.int v)) (zfix (fun _ _ _ => none) (bX6_addMaster_44 N) n h a0 x3) h 44 [(0, .ref a0), (3, .int x3)] [] := by
  induction n with
  | zero => intro h a0 x3; exact z_none
  | succ n hr44 =>
    intro h a0 x3
    show ZZ X g 4 (0, 0, 0, 0) _ (bX6_addMaster_44 N (zfix (fun _ _ _ => none) (bX6_addMaster_44 N) n) h a0 x3) h 44 _ _
    unfold bX6_addMaster_44
    refine z_iload_n C 1 dX6_addMaster_44 rfl ?_
    refine z_iconst (v := (4 : Int32)) C dX6_addMaster_45 rfl ?_
    refine z_icmpge C 69 dX6_addMaster_46 rfl ?_ ?_
    · refine z_aload_n C 0 dX6_addMaster_69 rfl ?_
      refine z_dup C dX6_addMaster_70 rfl ?_
      refine z_getI C qX6_9 dX6_addMaster_71 (fun v_1 => ?_)
      refine z_iconst (v := (1 : Int32)) C dX6_addMaster_74 rfl ?_
      refine z_iadd C dX6_addMaster_75 ?_
      refine z_putI C pX6_9 dX6_addMaster_76 (fun h_2 => ?_)
      refine z_aload_n C 0 dX6_addMaster_79 rfl ?_
      refine z_getI C qX6_9 dX6_addMaster_80 (fun v_3 => ?_)
      refine z_iconst (v := (1 : Int32)) C dX6_addMaster_83 rfl ?_
      refine z_isub C dX6_addMaster_84 ?_
      exact z_ireturn C ⟨rfl, rfl⟩ dX6_addMaster_85
    · refine z_aload_n C 0 dX6_addMaster_49 rfl ?_
      refine z_getR C qX6_25 dX6_addMaster_50 (fun a_4 => ?_)
      refine z_aload_n C 0 dX6_addMaster_53 rfl ?_
      refine z_getI C qX6_9 dX6_addMaster_54 (fun v_5 => ?_)
      refine z_iconst (v := (4 : Int32)) C dX6_addMaster_57 rfl ?_
      refine z_imul C dX6_addMaster_58 ?_
      refine z_iload_n C 1 dX6_addMaster_59 rfl ?_
      refine z_iadd C dX6_addMaster_60 ?_
      refine z_iconst (v := (0 : Int32)) C dX6_addMaster_61 rfl ?_
      refine z_iastore C dX6_addMaster_62 (fun h_6 => ?_)
      refine z_iinc (v := x3 + (1 : Int32)) C 1 dX6_addMaster_63 [(3, .int (x3 + (1 : Int32))), (0, .ref a0)] rfl rfl (by decide) rfl ?_
      refine z_goto C 44 dX6_addMaster_66 rfl ?_
      exact z_lv _ [1, 0] rfl (hr44 _ a0 (x3 + (1 : Int32)))
def fX6_addMaster (N : Nat) (h : AH) (a0 : Nat) (x1 : Int32) (x2 : Int32) : Option (Int32 × AH) :=
  (zgI h a0 6 0).bind fun v_1 =>
  (if v_1 < (6 : Int32) then
  (zgR h a0 6 1).bind fun a_2 =>
  (zgI h a0 6 0).bind fun v_3 =>
  (zast 0 h a_2 v_3 x1).bind fun h_4 =>
  (zgR h_4 a0 6 2).bind fun a_5 =>
  (zgI h_4 a0 6 0).bind fun v_6 =>
  (zast 0 h_4 a_5 v_6 x2).bind fun h_7 =>
  (zgR h_7 a0 6 3).bind fun a_8 =>
  (zgI h_7 a0 6 0).bind fun v_9 =>
  (zast 0 h_7 a_8 v_9 (0 : Int32)).bind fun h_10 =>
  zfix (fun _ _ _ => none) (bX6_addMaster_44 N) N h_10 a0 (0 : Int32)
  else
  some ((-4 : Int32), h))
theorem kX6_addMaster {l : Launch} {g : zG} (N : Nat) (h : AH) (a0 : Nat) (x1 : Int32) (x2 : Int32) : zM l g yX6_addMaster cX6_addMaster 4 (some .int) (1) 0 0 (fun v : Int32 => some (.int v)) (fX6_addMaster N h a0 x1 x2) h [.ref a0, .int x1, .int x2] := by
  refine zM.of (lv0 := [(0, .ref a0), (1, .int x1), (2, .int x2)]) (by decide) (Nat.le_of_ble_eq_true rfl) rfl (fun X hX C => ?_)
  subst hX
  unfold fX6_addMaster
  refine z_aload_n C 0 dX6_addMaster_0 rfl ?_
  refine z_getI C qX6_9 dX6_addMaster_1 (fun v_1 => ?_)
  refine z_bipush (v := (6 : Int32)) C dX6_addMaster_4 rfl ?_
  refine z_icmplt C 12 dX6_addMaster_6 rfl ?_ ?_
  · refine z_aload_n C 0 dX6_addMaster_12 rfl ?_
    refine z_getR C qX6_15 dX6_addMaster_13 (fun a_2 => ?_)
    refine z_aload_n C 0 dX6_addMaster_16 rfl ?_
    refine z_getI C qX6_9 dX6_addMaster_17 (fun v_3 => ?_)
    refine z_iload_n C 1 dX6_addMaster_20 rfl ?_
    refine z_iastore C dX6_addMaster_21 (fun h_4 => ?_)
    refine z_aload_n C 0 dX6_addMaster_22 rfl ?_
    refine z_getR C qX6_19 dX6_addMaster_23 (fun a_5 => ?_)
    refine z_aload_n C 0 dX6_addMaster_26 rfl ?_
    refine z_getI C qX6_9 dX6_addMaster_27 (fun v_6 => ?_)
    refine z_iload_n C 2 dX6_addMaster_30 rfl ?_
    refine z_iastore C dX6_addMaster_31 (fun h_7 => ?_)
    refine z_aload_n C 0 dX6_addMaster_32 rfl ?_
    refine z_getR C qX6_22 dX6_addMaster_33 (fun a_8 => ?_)
    refine z_aload_n C 0 dX6_addMaster_36 rfl ?_
    refine z_getI C qX6_9 dX6_addMaster_37 (fun v_9 => ?_)
    refine z_iconst (v := (0 : Int32)) C dX6_addMaster_40 rfl ?_
    refine z_iastore C dX6_addMaster_41 (fun h_10 => ?_)
    refine z_iconst (v := (0 : Int32)) C dX6_addMaster_42 rfl ?_
    refine z_istore_n C dX6_addMaster_43 [(3, .int (0 : Int32)), (0, .ref a0), (1, .int x1), (2, .int x2)] (by decide) rfl ?_
    exact z_lv _ [1, 0] rfl (tX6_addMaster_44 C N N _ a0 (0 : Int32))
  · refine z_bipush (v := (-4 : Int32)) C dX6_addMaster_9 rfl ?_
    exact z_ireturn C ⟨rfl, rfl⟩ dX6_addMaster_11
def fX6_addDeed (N : Nat) (h : AH) (a0 : Nat) (x1 : Int32) (x2 : Int32) (x3 : Int32) : Option (Int32 × AH) :=
  (zgI h a0 6 5).bind fun v_1 =>
  (if v_1 < (8 : Int32) then
  (zgR h a0 6 6).bind fun a_2 =>
  (zgI h a0 6 5).bind fun v_3 =>
  (zast 0 h a_2 v_3 x1).bind fun h_4 =>
  (zgR h_4 a0 6 7).bind fun a_5 =>
  (zgI h_4 a0 6 5).bind fun v_6 =>
  (zast 0 h_4 a_5 v_6 x2).bind fun h_7 =>
  (zgR h_7 a0 6 8).bind fun a_8 =>
  (zgI h_7 a0 6 5).bind fun v_9 =>
  (zast 0 h_7 a_8 v_9 x3).bind fun h_10 =>
  (zgI h_10 a0 6 5).bind fun v_11 =>
  (zput h_10 a0 6 5 (.int (v_11 + (1 : Int32)))).bind fun h_12 =>
  (zgI h_12 a0 6 5).bind fun v_13 =>
  some (v_13 - (1 : Int32), h_12)
  else
  some ((-4 : Int32), h))
theorem kX6_addDeed {l : Launch} {g : zG} (N : Nat) (h : AH) (a0 : Nat) (x1 : Int32) (x2 : Int32) (x3 : Int32) : zM l g yX6_addDeed cX6_addDeed 4 (some .int) (1) 0 0 (fun v : Int32 => some (.int v)) (fX6_addDeed N h a0 x1 x2 x3) h [.ref a0, .int x1, .int x2, .int x3] := by
  refine zM.of (lv0 := [(0, .ref a0), (1, .int x1), (2, .int x2), (3, .int x3)]) (by decide) (Nat.le_of_ble_eq_true rfl) rfl (fun X hX C => ?_)
  subst hX
  unfold fX6_addDeed
  refine z_aload_n C 0 dX6_addDeed_0 rfl ?_
  refine z_getI C qX6_28 dX6_addDeed_1 (fun v_1 => ?_)
  refine z_bipush (v := (8 : Int32)) C dX6_addDeed_4 rfl ?_
  refine z_icmplt C 12 dX6_addDeed_6 rfl ?_ ?_
  · refine z_aload_n C 0 dX6_addDeed_12 rfl ?_
    refine z_getR C qX6_31 dX6_addDeed_13 (fun a_2 => ?_)
    refine z_aload_n C 0 dX6_addDeed_16 rfl ?_
    refine z_getI C qX6_28 dX6_addDeed_17 (fun v_3 => ?_)
    refine z_iload_n C 1 dX6_addDeed_20 rfl ?_
    refine z_iastore C dX6_addDeed_21 (fun h_4 => ?_)
    refine z_aload_n C 0 dX6_addDeed_22 rfl ?_
    refine z_getR C qX6_34 dX6_addDeed_23 (fun a_5 => ?_)
    refine z_aload_n C 0 dX6_addDeed_26 rfl ?_
    refine z_getI C qX6_28 dX6_addDeed_27 (fun v_6 => ?_)
    refine z_iload_n C 2 dX6_addDeed_30 rfl ?_
    refine z_iastore C dX6_addDeed_31 (fun h_7 => ?_)
    refine z_aload_n C 0 dX6_addDeed_32 rfl ?_
    refine z_getR C qX6_37 dX6_addDeed_33 (fun a_8 => ?_)
    refine z_aload_n C 0 dX6_addDeed_36 rfl ?_
    refine z_getI C qX6_28 dX6_addDeed_37 (fun v_9 => ?_)
    refine z_iload_n C 3 dX6_addDeed_40 rfl ?_
    refine z_iastore C dX6_addDeed_41 (fun h_10 => ?_)
    refine z_aload_n C 0 dX6_addDeed_42 rfl ?_
    refine z_dup C dX6_addDeed_43 rfl ?_
    refine z_getI C qX6_28 dX6_addDeed_44 (fun v_11 => ?_)
    refine z_iconst (v := (1 : Int32)) C dX6_addDeed_47 rfl ?_
    refine z_iadd C dX6_addDeed_48 ?_
    refine z_putI C pX6_28 dX6_addDeed_49 (fun h_12 => ?_)
    refine z_aload_n C 0 dX6_addDeed_52 rfl ?_
    refine z_getI C qX6_28 dX6_addDeed_53 (fun v_13 => ?_)
    refine z_iconst (v := (1 : Int32)) C dX6_addDeed_56 rfl ?_
    refine z_isub C dX6_addDeed_57 ?_
    exact z_ireturn C ⟨rfl, rfl⟩ dX6_addDeed_58
  · refine z_bipush (v := (-4 : Int32)) C dX6_addDeed_9 rfl ?_
    exact z_ireturn C ⟨rfl, rfl⟩ dX6_addDeed_11
def fX6_addFootman (N : Nat) (h : AH) (a0 : Nat) (x1 : Int32) : Option (Int32 × AH) :=
  (zgI h a0 6 9).bind fun v_1 =>
  (if v_1 < (5 : Int32) then
  (zgR h a0 6 10).bind fun a_2 =>
  (zgI h a0 6 9).bind fun v_3 =>
  (zast 0 h a_2 v_3 x1).bind fun h_4 =>
  (zgI h_4 a0 6 9).bind fun v_5 =>
  (zput h_4 a0 6 9 (.int (v_5 + (1 : Int32)))).bind fun h_6 =>
  (zgI h_6 a0 6 9).bind fun v_7 =>
  some (v_7 - (1 : Int32), h_6)
  else
  some ((-4 : Int32), h))
theorem kX6_addFootman {l : Launch} {g : zG} (N : Nat) (h : AH) (a0 : Nat) (x1 : Int32) : zM l g yX6_addFootman cX6_addFootman 2 (some .int) (1) 0 0 (fun v : Int32 => some (.int v)) (fX6_addFootman N h a0 x1) h [.ref a0, .int x1] := by
  refine zM.of (lv0 := [(0, .ref a0), (1, .int x1)]) (by decide) (Nat.le_of_ble_eq_true rfl) rfl (fun X hX C => ?_)
  subst hX
  unfold fX6_addFootman
  refine z_aload_n C 0 dX6_addFootman_0 rfl ?_
  refine z_getI C qX6_40 dX6_addFootman_1 (fun v_1 => ?_)
  refine z_iconst (v := (5 : Int32)) C dX6_addFootman_4 rfl ?_
  refine z_icmplt C 11 dX6_addFootman_5 rfl ?_ ?_
  · refine z_aload_n C 0 dX6_addFootman_11 rfl ?_
    refine z_getR C qX6_43 dX6_addFootman_12 (fun a_2 => ?_)
    refine z_aload_n C 0 dX6_addFootman_15 rfl ?_
    refine z_getI C qX6_40 dX6_addFootman_16 (fun v_3 => ?_)
    refine z_iload_n C 1 dX6_addFootman_19 rfl ?_
    refine z_iastore C dX6_addFootman_20 (fun h_4 => ?_)
    refine z_aload_n C 0 dX6_addFootman_21 rfl ?_
    refine z_dup C dX6_addFootman_22 rfl ?_
    refine z_getI C qX6_40 dX6_addFootman_23 (fun v_5 => ?_)
    refine z_iconst (v := (1 : Int32)) C dX6_addFootman_26 rfl ?_
    refine z_iadd C dX6_addFootman_27 ?_
    refine z_putI C pX6_40 dX6_addFootman_28 (fun h_6 => ?_)
    refine z_aload_n C 0 dX6_addFootman_31 rfl ?_
    refine z_getI C qX6_40 dX6_addFootman_32 (fun v_7 => ?_)
    refine z_iconst (v := (1 : Int32)) C dX6_addFootman_35 rfl ?_
    refine z_isub C dX6_addFootman_36 ?_
    exact z_ireturn C ⟨rfl, rfl⟩ dX6_addFootman_37
  · refine z_bipush (v := (-4 : Int32)) C dX6_addFootman_8 rfl ?_
    exact z_ireturn C ⟨rfl, rfl⟩ dX6_addFootman_10
def bX6_addSeen_50 (N : Nat) (h : AH) (a0 : Nat) (s0 : Nat) (s1 : Int32) (s2 : Int32) : Option (Int32 × AH) :=
  (zast 0 h s0 s1 s2).bind fun h_1 =>
  (zgI h_1 a0 6 14).bind fun v_2 =>
  (zput h_1 a0 6 14 (.int (v_2 + (1 : Int32)))).bind fun h_3 =>
  (zgI h_3 a0 6 14).bind fun v_4 =>
  some (v_4, h_3)
theorem tX6_addSeen_50 {X : zX} {g : zG} (C : zC X g yX6_addSeen cX6_addSeen 6 1 0 0 (some .int)) (N : Nat) (h : AH) (a0 : Nat) (s0 : Nat) (s1 : Int32) (s2 : Int32) : ZZ X g 6 (0, 0, 0, 0) (fun v : Int32 => some (.int v)) (bX6_addSeen_50 N h a0 s0 s1 s2) h 50 [(0, .ref a0)] [.int s2, .int s1, .ref s0] := by
  unfold bX6_addSeen_50
  refine z_iastore C dX6_addSeen_50 (fun h_1 => ?_)
  refine z_aload_n C 0 dX6_addSeen_51 rfl ?_
  refine z_dup C dX6_addSeen_52 rfl ?_
  refine z_getI C qX6_55 dX6_addSeen_53 (fun v_2 => ?_)
  refine z_iconst (v := (1 : Int32)) C dX6_addSeen_56 rfl ?_
  refine z_iadd C dX6_addSeen_57 ?_
  refine z_putI C pX6_55 dX6_addSeen_58 (fun h_3 => ?_)
  refine z_aload_n C 0 dX6_addSeen_61 rfl ?_
  refine z_getI C qX6_55 dX6_addSeen_62 (fun v_4 => ?_)
  exact z_ireturn C ⟨rfl, rfl⟩ dX6_addSeen_65
def fX6_addSeen (N : Nat) (h : AH) (a0 : Nat) (x1 : Int32) (x2 : Int32) (x3 : Int32) (x4 : Int32) : Option (Int32 × AH) :=
  (zgI h a0 6 14).bind fun v_1 =>
  (if v_1 < (5 : Int32) then
  (zgR h a0 6 15).bind fun a_2 =>
  (zgI h a0 6 14).bind fun v_3 =>
  (zaald 7 h a_2 v_3).bind fun a_4 =>
  (zast 0 h a_4 (0 : Int32) x1).bind fun h_5 =>
  (zast 0 h_5 a_4 (1 : Int32) x2).bind fun h_6 =>
  (zast 0 h_6 a_4 (2 : Int32) x3).bind fun h_7 =>
  (if x4 = (0) then
  bX6_addSeen_50 N h_7 a0 a_4 (3 : Int32) (0 : Int32)
  else
  bX6_addSeen_50 N h_7 a0 a_4 (3 : Int32) (1 : Int32))
  else
  some ((-4 : Int32), h))
theorem kX6_addSeen {l : Launch} {g : zG} (N : Nat) (h : AH) (a0 : Nat) (x1 : Int32) (x2 : Int32) (x3 : Int32) (x4 : Int32) : zM l g yX6_addSeen cX6_addSeen 6 (some .int) (1) 0 0 (fun v : Int32 => some (.int v)) (fX6_addSeen N h a0 x1 x2 x3 x4) h [.ref a0, .int x1, .int x2, .int x3, .int x4] := by
  refine zM.of (lv0 := [(0, .ref a0), (1, .int x1), (2, .int x2), (3, .int x3), (4, .int x4)]) (by decide) (Nat.le_of_ble_eq_true rfl) rfl (fun X hX C => ?_)
  subst hX
  unfold fX6_addSeen
  refine z_aload_n C 0 dX6_addSeen_0 rfl ?_
  refine z_getI C qX6_55 dX6_addSeen_1 (fun v_1 => ?_)
  refine z_iconst (v := (5 : Int32)) C dX6_addSeen_4 rfl ?_
  refine z_icmplt C 11 dX6_addSeen_5 rfl ?_ ?_
  · refine z_aload_n C 0 dX6_addSeen_11 rfl ?_
    refine z_getR C qX6_60 dX6_addSeen_12 (fun a_2 => ?_)
    refine z_aload_n C 0 dX6_addSeen_15 rfl ?_
    refine z_getI C qX6_55 dX6_addSeen_16 (fun v_3 => ?_)
    refine z_aaload C (by decide) dX6_addSeen_19 (fun a_4 => ?_)
    refine z_astore C dX6_addSeen_20 [(5, .ref a_4), (0, .ref a0), (1, .int x1), (2, .int x2), (3, .int x3), (4, .int x4)] (by decide) rfl ?_
    refine z_aload C 0 dX6_addSeen_22 rfl ?_
    refine z_iconst (v := (0 : Int32)) C dX6_addSeen_24 rfl ?_
    refine z_iload_n C 2 dX6_addSeen_25 rfl ?_
    refine z_iastore C dX6_addSeen_26 (fun h_5 => ?_)
    refine z_aload C 0 dX6_addSeen_27 rfl ?_
    refine z_iconst (v := (1 : Int32)) C dX6_addSeen_29 rfl ?_
    refine z_iload_n C 3 dX6_addSeen_30 rfl ?_
    refine z_iastore C dX6_addSeen_31 (fun h_6 => ?_)
    refine z_aload C 0 dX6_addSeen_32 rfl ?_
    refine z_iconst (v := (2 : Int32)) C dX6_addSeen_34 rfl ?_
    refine z_iload_n C 4 dX6_addSeen_35 rfl ?_
    refine z_iastore C dX6_addSeen_36 (fun h_7 => ?_)
    refine z_aload C 0 dX6_addSeen_37 rfl ?_
    refine z_iconst (v := (3 : Int32)) C dX6_addSeen_39 rfl ?_
    refine z_iload C 5 dX6_addSeen_40 rfl ?_
    refine z_ifeq C 49 dX6_addSeen_42 rfl ?_ ?_
    · refine z_iconst (v := (0 : Int32)) C dX6_addSeen_49 rfl ?_
      exact z_lv _ [1] rfl (tX6_addSeen_50 C N _ a0 a_4 (3 : Int32) (0 : Int32))
    · refine z_iconst (v := (1 : Int32)) C dX6_addSeen_45 rfl ?_
      refine z_goto C 50 dX6_addSeen_46 rfl ?_
      exact z_lv _ [1] rfl (tX6_addSeen_50 C N _ a0 a_4 (3 : Int32) (1 : Int32))
  · refine z_bipush (v := (-4 : Int32)) C dX6_addSeen_8 rfl ?_
    exact z_ireturn C ⟨rfl, rfl⟩ dX6_addSeen_10
def fX6_addPlan (N : Nat) (h : AH) (a0 : Nat) (x1 : Int32) (x2 : Int32) : Option (Int32 × AH) :=
  (zgI h a0 6 16).bind fun v_1 =>
  (if v_1 < (10 : Int32) then
  (zgR h a0 6 17).bind fun a_2 =>
  (zgI h a0 6 16).bind fun v_3 =>
  (zaald 7 h a_2 v_3).bind fun a_4 =>
  (zast 0 h a_4 (0 : Int32) x1).bind fun h_5 =>
  (zgR h_5 a0 6 17).bind fun a_6 =>
  (zgI h_5 a0 6 16).bind fun v_7 =>
  (zaald 7 h_5 a_6 v_7).bind fun a_8 =>
  (zast 0 h_5 a_8 (1 : Int32) x2).bind fun h_9 =>
  (zgI h_9 a0 6 16).bind fun v_10 =>
  (zput h_9 a0 6 16 (.int (v_10 + (1 : Int32)))).bind fun h_11 =>
  (zgI h_11 a0 6 16).bind fun v_12 =>
  some (v_12, h_11)
  else
  some ((-4 : Int32), h))
theorem kX6_addPlan {l : Launch} {g : zG} (N : Nat) (h : AH) (a0 : Nat) (x1 : Int32) (x2 : Int32) : zM l g yX6_addPlan cX6_addPlan 3 (some .int) (1) 0 0 (fun v : Int32 => some (.int v)) (fX6_addPlan N h a0 x1 x2) h [.ref a0, .int x1, .int x2] := by
  refine zM.of (lv0 := [(0, .ref a0), (1, .int x1), (2, .int x2)]) (by decide) (Nat.le_of_ble_eq_true rfl) rfl (fun X hX C => ?_)
  subst hX
  unfold fX6_addPlan
  refine z_aload_n C 0 dX6_addPlan_0 rfl ?_
  refine z_getI C qX6_63 dX6_addPlan_1 (fun v_1 => ?_)
  refine z_bipush (v := (10 : Int32)) C dX6_addPlan_4 rfl ?_
  refine z_icmplt C 12 dX6_addPlan_6 rfl ?_ ?_
  · refine z_aload_n C 0 dX6_addPlan_12 rfl ?_
    refine z_getR C qX6_66 dX6_addPlan_13 (fun a_2 => ?_)
    refine z_aload_n C 0 dX6_addPlan_16 rfl ?_
    refine z_getI C qX6_63 dX6_addPlan_17 (fun v_3 => ?_)
    refine z_aaload C (by decide) dX6_addPlan_20 (fun a_4 => ?_)
    refine z_iconst (v := (0 : Int32)) C dX6_addPlan_21 rfl ?_
    refine z_iload_n C 1 dX6_addPlan_22 rfl ?_
    refine z_iastore C dX6_addPlan_23 (fun h_5 => ?_)
    refine z_aload_n C 0 dX6_addPlan_24 rfl ?_
    refine z_getR C qX6_66 dX6_addPlan_25 (fun a_6 => ?_)
    refine z_aload_n C 0 dX6_addPlan_28 rfl ?_
    refine z_getI C qX6_63 dX6_addPlan_29 (fun v_7 => ?_)
    refine z_aaload C (by decide) dX6_addPlan_32 (fun a_8 => ?_)
    refine z_iconst (v := (1 : Int32)) C dX6_addPlan_33 rfl ?_
    refine z_iload_n C 2 dX6_addPlan_34 rfl ?_
    refine z_iastore C dX6_addPlan_35 (fun h_9 => ?_)
    refine z_aload_n C 0 dX6_addPlan_36 rfl ?_
    refine z_dup C dX6_addPlan_37 rfl ?_
    refine z_getI C qX6_63 dX6_addPlan_38 (fun v_10 => ?_)
    refine z_iconst (v := (1 : Int32)) C dX6_addPlan_41 rfl ?_
    refine z_iadd C dX6_addPlan_42 ?_
    refine z_putI C pX6_63 dX6_addPlan_43 (fun h_11 => ?_)
    refine z_aload_n C 0 dX6_addPlan_46 rfl ?_
    refine z_getI C qX6_63 dX6_addPlan_47 (fun v_12 => ?_)
    exact z_ireturn C ⟨rfl, rfl⟩ dX6_addPlan_50
  · refine z_bipush (v := (-4 : Int32)) C dX6_addPlan_9 rfl ?_
    exact z_ireturn C ⟨rfl, rfl⟩ dX6_addPlan_11
def fX6_addBook (N : Nat) (h : AH) (a0 : Nat) (x1 : Int32) (x2 : Int32) : Option (Int32 × AH) :=
  (zgI h a0 6 18).bind fun v_1 =>
  (if v_1 < (8 : Int32) then
  (zgR h a0 6 19).bind fun a_2 =>
  (zgI h a0 6 18).bind fun v_3 =>
  (zaald 7 h a_2 v_3).bind fun a_4 =>
  (zast 0 h a_4 (0 : Int32) x1).bind fun h_5 =>
  (zgR h_5 a0 6 19).bind fun a_6 =>
  (zgI h_5 a0 6 18).bind fun v_7 =>
  (zaald 7 h_5 a_6 v_7).bind fun a_8 =>
  (zast 0 h_5 a_8 (1 : Int32) x2).bind fun h_9 =>
  (zgI h_9 a0 6 18).bind fun v_10 =>
  (zput h_9 a0 6 18 (.int (v_10 + (1 : Int32)))).bind fun h_11 =>
  (zgI h_11 a0 6 18).bind fun v_12 =>
  some (v_12, h_11)
  else
  some ((-4 : Int32), h))
theorem kX6_addBook {l : Launch} {g : zG} (N : Nat) (h : AH) (a0 : Nat) (x1 : Int32) (x2 : Int32) : zM l g yX6_addBook cX6_addBook 3 (some .int) (1) 0 0 (fun v : Int32 => some (.int v)) (fX6_addBook N h a0 x1 x2) h [.ref a0, .int x1, .int x2] := by
  refine zM.of (lv0 := [(0, .ref a0), (1, .int x1), (2, .int x2)]) (by decide) (Nat.le_of_ble_eq_true rfl) rfl (fun X hX C => ?_)
  subst hX
  unfold fX6_addBook
  refine z_aload_n C 0 dX6_addBook_0 rfl ?_
  refine z_getI C qX6_69 dX6_addBook_1 (fun v_1 => ?_)
  refine z_bipush (v := (8 : Int32)) C dX6_addBook_4 rfl ?_
  refine z_icmplt C 12 dX6_addBook_6 rfl ?_ ?_
  · refine z_aload_n C 0 dX6_addBook_12 rfl ?_
    refine z_getR C qX6_72 dX6_addBook_13 (fun a_2 => ?_)
    refine z_aload_n C 0 dX6_addBook_16 rfl ?_
    refine z_getI C qX6_69 dX6_addBook_17 (fun v_3 => ?_)
    refine z_aaload C (by decide) dX6_addBook_20 (fun a_4 => ?_)
    refine z_iconst (v := (0 : Int32)) C dX6_addBook_21 rfl ?_
    refine z_iload_n C 1 dX6_addBook_22 rfl ?_
    refine z_iastore C dX6_addBook_23 (fun h_5 => ?_)
    refine z_aload_n C 0 dX6_addBook_24 rfl ?_
    refine z_getR C qX6_72 dX6_addBook_25 (fun a_6 => ?_)
    refine z_aload_n C 0 dX6_addBook_28 rfl ?_
    refine z_getI C qX6_69 dX6_addBook_29 (fun v_7 => ?_)
    refine z_aaload C (by decide) dX6_addBook_32 (fun a_8 => ?_)
    refine z_iconst (v := (1 : Int32)) C dX6_addBook_33 rfl ?_
    refine z_iload_n C 2 dX6_addBook_34 rfl ?_
    refine z_iastore C dX6_addBook_35 (fun h_9 => ?_)
    refine z_aload_n C 0 dX6_addBook_36 rfl ?_
    refine z_dup C dX6_addBook_37 rfl ?_
    refine z_getI C qX6_69 dX6_addBook_38 (fun v_10 => ?_)
    refine z_iconst (v := (1 : Int32)) C dX6_addBook_41 rfl ?_
    refine z_iadd C dX6_addBook_42 ?_
    refine z_putI C pX6_69 dX6_addBook_43 (fun h_11 => ?_)
    refine z_aload_n C 0 dX6_addBook_46 rfl ?_
    refine z_getI C qX6_69 dX6_addBook_47 (fun v_12 => ?_)
    exact z_ireturn C ⟨rfl, rfl⟩ dX6_addBook_50
  · refine z_bipush (v := (-4 : Int32)) C dX6_addBook_9 rfl ?_
    exact z_ireturn C ⟨rfl, rfl⟩ dX6_addBook_11
def bX6_doneWith_4 (N : Nat) (r4 : AH → Nat → Nat → Int32 → Int32 → Option (Int32 × AH)) (h : AH) (a0 : Nat) (a1 : Nat) (x2 : Int32) (x3 : Int32) : Option (Int32 × AH) :=
  (zgI h a0 6 5).bind fun v_1 =>
  (if v_1 ≤ x3 then
  some (x2, h)
  else
  (zgR h a0 6 6).bind fun a_2 =>
  (zald 0 h a_2 x3).bind fun v_3 =>
  (zis h a0 6).bind fun _ =>
  zcall (fX6_hasMaster N h a0 v_3) fun v_5 h_4 =>
  (if v_5 = (0) then
  r4 h_4 a0 a1 x2 (x3 + (1 : Int32))
  else
  (zgR h_4 a0 6 7).bind fun a_7 =>
  (zald 0 h_4 a_7 x3).bind fun v_8 =>
  (zald 0 h_4 a1 v_3).bind fun v_9 =>
  (if (v_8 &&& (v_9 ^^^ (-1 : Int32))) = (0) then
  znm (x2 ||| ((1 : Int32) <<< (x3 &&& 31))) fun y_10 =>
  r4 h_4 a0 a1 y_10 (x3 + (1 : Int32))
  else
  r4 h_4 a0 a1 x2 (x3 + (1 : Int32)))))
theorem tX6_doneWith_4 {X : zX} {g : zG} (C : zC X g yX6_doneWith cX6_doneWith 5 2 0 0 (some .int)) (N : Nat) (n : Nat) : ∀ (h : AH) (a0 : Nat) (a1 : Nat) (x2 : Int32) (x3 : Int32), ZZ X g 5 (0, 0, 0, 0) (fun v : Int32 => some (.int v)) (zfix (fun _ _ _ _ _ => none) (bX6_doneWith_4 N) n h a0 a1 x2 x3) h 4 [(0, .ref a0), (1, .ref a1), (2, .int x2), (3, .int x3)] [] := by
  induction n with
  | zero => intro h a0 a1 x2 x3; exact z_none
  | succ n hr4 =>
    intro h a0 a1 x2 x3
    show ZZ X g 5 (0, 0, 0, 0) _ (bX6_doneWith_4 N (zfix (fun _ _ _ _ _ => none) (bX6_doneWith_4 N) n) h a0 a1 x2 x3) h 4 _ _
    unfold bX6_doneWith_4
    refine z_iload_n C 3 dX6_doneWith_4 rfl ?_
    refine z_aload_n C 0 dX6_doneWith_5 rfl ?_
    refine z_getI C qX6_28 dX6_doneWith_6 (fun v_1 => ?_)
    refine z_icmpge C 57 dX6_doneWith_9 rfl ?_ ?_
    · refine z_iload_n C 2 dX6_doneWith_57 rfl ?_
      exact z_ireturn C ⟨rfl, rfl⟩ dX6_doneWith_58
    · refine z_aload_n C 0 dX6_doneWith_12 rfl ?_
      refine z_getR C qX6_31 dX6_doneWith_13 (fun a_2 => ?_)
      refine z_iload_n C 3 dX6_doneWith_16 rfl ?_
      refine z_iaload C dX6_doneWith_17 (fun v_3 => ?_)
      refine z_istore C dX6_doneWith_18 [(4, .int v_3), (0, .ref a0), (1, .ref a1), (2, .int x2), (3, .int x3)] (by decide) rfl ?_
      refine z_aload_n C 1 dX6_doneWith_20 rfl ?_
      refine z_iload C 0 dX6_doneWith_21 rfl ?_
      refine z_bind (fun _ q_6 => ?_)
      refine z_calli (z_runV (As := [.int v_3]) (rest := []) C mX6_75 (kX6_hasMaster N h a0 v_3) q_6 (Nat.le_of_ble_eq_true rfl) ⟨Nat.zero_le _, Nat.zero_le _⟩ dX6_doneWith_23 rfl rfl (Nat.le_of_ble_eq_true rfl)) rfl (fun v_5 h_4 => ?_)
      refine z_ifeq C 51 dX6_doneWith_26 rfl ?_ ?_
      · refine z_iinc (v := x3 + (1 : Int32)) C 4 dX6_doneWith_51 [(3, .int (x3 + (1 : Int32))), (4, .int v_3), (0, .ref a0), (1, .ref a1), (2, .int x2)] rfl rfl (by decide) rfl ?_
        refine z_goto C 4 dX6_doneWith_54 rfl ?_
        exact z_lv _ [2, 3, 4, 0] rfl (hr4 _ a0 a1 x2 (x3 + (1 : Int32)))
      · refine z_aload_n C 1 dX6_doneWith_29 rfl ?_
        refine z_getR C qX6_34 dX6_doneWith_30 (fun a_7 => ?_)
        refine z_iload_n C 4 dX6_doneWith_33 rfl ?_
        refine z_iaload C dX6_doneWith_34 (fun v_8 => ?_)
        refine z_aload_n C 2 dX6_doneWith_35 rfl ?_
        refine z_iload C 0 dX6_doneWith_36 rfl ?_
        refine z_iaload C dX6_doneWith_38 (fun v_9 => ?_)
        refine z_iconst (v := (-1 : Int32)) C dX6_doneWith_39 rfl ?_
        refine z_ixor C dX6_doneWith_40 ?_
        refine z_iand C dX6_doneWith_41 ?_
        refine z_ifne C 51 dX6_doneWith_42 rfl ?_ ?_
        · refine z_iinc (v := x3 + (1 : Int32)) C 4 dX6_doneWith_51 [(3, .int (x3 + (1 : Int32))), (4, .int v_3), (0, .ref a0), (1, .ref a1), (2, .int x2)] rfl rfl (by decide) rfl ?_
          refine z_goto C 4 dX6_doneWith_54 rfl ?_
          exact z_lv _ [2, 3, 4, 0] rfl (hr4 _ a0 a1 x2 (x3 + (1 : Int32)))
        · refine z_iload_n C 3 dX6_doneWith_45 rfl ?_
          refine z_iconst (v := (1 : Int32)) C dX6_doneWith_46 rfl ?_
          refine z_iload_n C 4 dX6_doneWith_47 rfl ?_
          refine z_ishl C dX6_doneWith_48 ?_
          refine z_ior C dX6_doneWith_49 ?_
          refine z_nmI (fun y_10 => ?_)
          refine z_istore_n C dX6_doneWith_50 [(2, .int y_10), (4, .int v_3), (0, .ref a0), (1, .ref a1), (3, .int x3)] (by decide) rfl ?_
          refine z_iinc (v := x3 + (1 : Int32)) C 4 dX6_doneWith_51 [(3, .int (x3 + (1 : Int32))), (2, .int y_10), (4, .int v_3), (0, .ref a0), (1, .ref a1)] rfl rfl (by decide) rfl ?_
          refine z_goto C 4 dX6_doneWith_54 rfl ?_
          exact z_lv _ [3, 4, 1, 0] rfl (hr4 _ a0 a1 y_10 (x3 + (1 : Int32)))
def fX6_doneWith (N : Nat) (h : AH) (a0 : Nat) (a1 : Nat) : Option (Int32 × AH) :=
  zfix (fun _ _ _ _ _ => none) (bX6_doneWith_4 N) N h a0 a1 (0 : Int32) (0 : Int32)
theorem kX6_doneWith {l : Launch} {g : zG} (N : Nat) (h : AH) (a0 : Nat) (a1 : Nat) : zM l g yX6_doneWith cX6_doneWith 5 (some .int) (2) 0 0 (fun v : Int32 => some (.int v)) (fX6_doneWith N h a0 a1) h [.ref a0, .ref a1] := by
  refine zM.of (lv0 := [(0, .ref a0), (1, .ref a1)]) (by decide) (Nat.le_of_ble_eq_true rfl) rfl (fun X hX C => ?_)
  subst hX
  unfold fX6_doneWith
  refine z_iconst (v := (0 : Int32)) C dX6_doneWith_0 rfl ?_
  refine z_istore_n C dX6_doneWith_1 [(2, .int (0 : Int32)), (0, .ref a0), (1, .ref a1)] (by decide) rfl ?_
  refine z_iconst (v := (0 : Int32)) C dX6_doneWith_2 rfl ?_
  refine z_istore_n C dX6_doneWith_3 [(3, .int (0 : Int32)), (2, .int (0 : Int32)), (0, .ref a0), (1, .ref a1)] (by decide) rfl ?_
  exact z_lv _ [2, 3, 1, 0] rfl (tX6_doneWith_4 C N N _ a0 a1 (0 : Int32) (0 : Int32))
def fJ6_bitCount_0f7a4 (N : Nat) (h : AH) (x0 : Int32) : Option (Int32 × AH) :=
  znm (x0 - (((x0.toUInt32 >>> ((1 : Int32).toUInt32 &&& Int32.toUInt32 31)).toInt32) &&& (1431655765 : Int32))) fun y_1 =>
  znm ((y_1 &&& (858993459 : Int32)) + (((y_1.toUInt32 >>> ((2 : Int32).toUInt32 &&& Int32.toUInt32 31)).toInt32) &&& (858993459 : Int32))) fun y_2 =>
  znm ((y_2 + ((y_2.toUInt32 >>> ((4 : Int32).toUInt32 &&& Int32.toUInt32 31)).toInt32)) &&& (252645135 : Int32)) fun y_3 =>
  znm (y_3 + ((y_3.toUInt32 >>> ((8 : Int32).toUInt32 &&& Int32.toUInt32 31)).toInt32)) fun y_4 =>
  znm (y_4 + ((y_4.toUInt32 >>> ((16 : Int32).toUInt32 &&& Int32.toUInt32 31)).toInt32)) fun y_5 =>
  some (y_5 &&& (63 : Int32), h)
theorem kJ6_bitCount_0f7a4 {l : Launch} {g : zG} (N : Nat) (h : AH) (x0 : Int32) : zM l g yJ6_bitCount_0f7a4 cJ6_bitCount_0f7a4 1 (some .int) (1) 0 0 (fun v : Int32 => some (.int v)) (fJ6_bitCount_0f7a4 N h x0) h [.int x0] := by
  refine zM.of (lv0 := [(0, .int x0)]) (by decide) (Nat.le_of_ble_eq_true rfl) rfl (fun X hX C => ?_)
  subst hX
  unfold fJ6_bitCount_0f7a4
  refine z_iload_n C 0 dJ6_bitCount_0f7a4_0 rfl ?_
  refine z_iload_n C 0 dJ6_bitCount_0f7a4_1 rfl ?_
  refine z_iconst (v := (1 : Int32)) C dJ6_bitCount_0f7a4_2 rfl ?_
  refine z_iushr C dJ6_bitCount_0f7a4_3 ?_
  refine z_ldc_w (v := (1431655765 : Int32)) C dJ6_bitCount_0f7a4_4 (tblG_at 723 (by decide +kernel) (by decide +kernel)) ?_
  refine z_iand C dJ6_bitCount_0f7a4_7 ?_
  refine z_isub C dJ6_bitCount_0f7a4_8 ?_
  refine z_nmI (fun y_1 => ?_)
  refine z_istore_n C dJ6_bitCount_0f7a4_9 [(0, .int y_1)] (by decide) rfl ?_
  refine z_iload_n C 0 dJ6_bitCount_0f7a4_10 rfl ?_
  refine z_ldc_w (v := (858993459 : Int32)) C dJ6_bitCount_0f7a4_11 (tblG_at 724 (by decide +kernel) (by decide +kernel)) ?_
  refine z_iand C dJ6_bitCount_0f7a4_14 ?_
  refine z_iload_n C 0 dJ6_bitCount_0f7a4_15 rfl ?_
  refine z_iconst (v := (2 : Int32)) C dJ6_bitCount_0f7a4_16 rfl ?_
  refine z_iushr C dJ6_bitCount_0f7a4_17 ?_
  refine z_ldc_w (v := (858993459 : Int32)) C dJ6_bitCount_0f7a4_18 (tblG_at 724 (by decide +kernel) (by decide +kernel)) ?_
  refine z_iand C dJ6_bitCount_0f7a4_21 ?_
  refine z_iadd C dJ6_bitCount_0f7a4_22 ?_
  refine z_nmI (fun y_2 => ?_)
  refine z_istore_n C dJ6_bitCount_0f7a4_23 [(0, .int y_2)] (by decide) rfl ?_
  refine z_iload_n C 0 dJ6_bitCount_0f7a4_24 rfl ?_
  refine z_iload_n C 0 dJ6_bitCount_0f7a4_25 rfl ?_
  refine z_iconst (v := (4 : Int32)) C dJ6_bitCount_0f7a4_26 rfl ?_
  refine z_iushr C dJ6_bitCount_0f7a4_27 ?_
  refine z_iadd C dJ6_bitCount_0f7a4_28 ?_
  refine z_ldc_w (v := (252645135 : Int32)) C dJ6_bitCount_0f7a4_29 (tblG_at 725 (by decide +kernel) (by decide +kernel)) ?_
  refine z_iand C dJ6_bitCount_0f7a4_32 ?_
  refine z_nmI (fun y_3 => ?_)
  refine z_istore_n C dJ6_bitCount_0f7a4_33 [(0, .int y_3)] (by decide) rfl ?_
  refine z_iload_n C 0 dJ6_bitCount_0f7a4_34 rfl ?_
  refine z_iload_n C 0 dJ6_bitCount_0f7a4_35 rfl ?_
  refine z_bipush (v := (8 : Int32)) C dJ6_bitCount_0f7a4_36 rfl ?_
  refine z_iushr C dJ6_bitCount_0f7a4_38 ?_
  refine z_iadd C dJ6_bitCount_0f7a4_39 ?_
  refine z_nmI (fun y_4 => ?_)
  refine z_istore_n C dJ6_bitCount_0f7a4_40 [(0, .int y_4)] (by decide) rfl ?_
  refine z_iload_n C 0 dJ6_bitCount_0f7a4_41 rfl ?_
  refine z_iload_n C 0 dJ6_bitCount_0f7a4_42 rfl ?_
  refine z_bipush (v := (16 : Int32)) C dJ6_bitCount_0f7a4_43 rfl ?_
  refine z_iushr C dJ6_bitCount_0f7a4_45 ?_
  refine z_iadd C dJ6_bitCount_0f7a4_46 ?_
  refine z_nmI (fun y_5 => ?_)
  refine z_istore_n C dJ6_bitCount_0f7a4_47 [(0, .int y_5)] (by decide) rfl ?_
  refine z_iload_n C 0 dJ6_bitCount_0f7a4_48 rfl ?_
  refine z_bipush (v := (63 : Int32)) C dJ6_bitCount_0f7a4_49 rfl ?_
  refine z_iand C dJ6_bitCount_0f7a4_51 ?_
  exact z_ireturn C ⟨rfl, rfl⟩ dJ6_bitCount_0f7a4_52
def bX6_knownIn_4 (N : Nat) (r4 : AH → Nat → Nat → Int32 → Int32 → Option (Int32 × AH)) (h : AH) (a0 : Nat) (a1 : Nat) (x2 : Int32) (x3 : Int32) : Option (Int32 × AH) :=
  (zgI h a0 6 0).bind fun v_1 =>
  (if v_1 ≤ x3 then
  some (x2, h)
  else
  (zald 0 h a1 x3).bind fun v_2 =>
  zcall (fJ6_bitCount_0f7a4 N h v_2) fun v_4 h_3 =>
  znm (x2 + v_4) fun y_5 =>
  r4 h_3 a0 a1 y_5 (x3 + (1 : Int32)))
theorem tX6_knownIn_4 {X : zX} {g : zG} (C : zC X g yX6_knownIn cX6_knownIn 4 2 0 0 (some .int)) (N : Nat) (n : Nat) : ∀ (h : AH) (a0 : Nat) (a1 : Nat) (x2 : Int32) (x3 : Int32), ZZ X g 4 (0, 0, 0, 0) (fun v : Int32 => some (.int v)) (zfix (fun _ _ _ _ _ => none) (bX6_knownIn_4 N) n h a0 a1 x2 x3) h 4 [(0, .ref a0), (1, .ref a1), (2, .int x2), (3, .int x3)] [] := by
  induction n with
  | zero => intro h a0 a1 x2 x3; exact z_none
  | succ n hr4 =>
    intro h a0 a1 x2 x3
    show ZZ X g 4 (0, 0, 0, 0) _ (bX6_knownIn_4 N (zfix (fun _ _ _ _ _ => none) (bX6_knownIn_4 N) n) h a0 a1 x2 x3) h 4 _ _
    unfold bX6_knownIn_4
    refine z_iload_n C 3 dX6_knownIn_4 rfl ?_
    refine z_aload_n C 0 dX6_knownIn_5 rfl ?_
    refine z_getI C qX6_9 dX6_knownIn_6 (fun v_1 => ?_)
    refine z_icmpge C 27 dX6_knownIn_9 rfl ?_ ?_
    · refine z_iload_n C 2 dX6_knownIn_27 rfl ?_
      exact z_ireturn C ⟨rfl, rfl⟩ dX6_knownIn_28
    · refine z_iload_n C 2 dX6_knownIn_12 rfl ?_
      refine z_aload_n C 1 dX6_knownIn_13 rfl ?_
      refine z_iload_n C 3 dX6_knownIn_14 rfl ?_
      refine z_iaload C dX6_knownIn_15 (fun v_2 => ?_)
      refine z_calli (z_runS (As := [.int v_2]) (rest := [.int x2]) C mX6_79 (kJ6_bitCount_0f7a4 N h v_2) (Nat.le_of_ble_eq_true rfl) ⟨Nat.zero_le _, Nat.zero_le _⟩ dX6_knownIn_16 rfl rfl (Nat.le_of_ble_eq_true rfl)) rfl (fun v_4 h_3 => ?_)
      refine z_iadd C dX6_knownIn_19 ?_
      refine z_nmI (fun y_5 => ?_)
      refine z_istore_n C dX6_knownIn_20 [(2, .int y_5), (0, .ref a0), (1, .ref a1), (3, .int x3)] (by decide) rfl ?_
      refine z_iinc (v := x3 + (1 : Int32)) C 3 dX6_knownIn_21 [(3, .int (x3 + (1 : Int32))), (2, .int y_5), (0, .ref a0), (1, .ref a1)] rfl rfl (by decide) rfl ?_
      refine z_goto C 4 dX6_knownIn_24 rfl ?_
      exact z_lv _ [2, 3, 1, 0] rfl (hr4 _ a0 a1 y_5 (x3 + (1 : Int32)))
def fX6_knownIn (N : Nat) (h : AH) (a0 : Nat) (a1 : Nat) : Option (Int32 × AH) :=
  zfix (fun _ _ _ _ _ => none) (bX6_knownIn_4 N) N h a0 a1 (0 : Int32) (0 : Int32)
theorem kX6_knownIn {l : Launch} {g : zG} (N : Nat) (h : AH) (a0 : Nat) (a1 : Nat) : zM l g yX6_knownIn cX6_knownIn 4 (some .int) (2) 0 0 (fun v : Int32 => some (.int v)) (fX6_knownIn N h a0 a1) h [.ref a0, .ref a1] := by
  refine zM.of (lv0 := [(0, .ref a0), (1, .ref a1)]) (by decide) (Nat.le_of_ble_eq_true rfl) rfl (fun X hX C => ?_)
  subst hX
  unfold fX6_knownIn
  refine z_iconst (v := (0 : Int32)) C dX6_knownIn_0 rfl ?_
  refine z_istore_n C dX6_knownIn_1 [(2, .int (0 : Int32)), (0, .ref a0), (1, .ref a1)] (by decide) rfl ?_
  refine z_iconst (v := (0 : Int32)) C dX6_knownIn_2 rfl ?_
  refine z_istore_n C dX6_knownIn_3 [(3, .int (0 : Int32)), (2, .int (0 : Int32)), (0, .ref a0), (1, .ref a1)] (by decide) rfl ?_
  exact z_lv _ [2, 3, 1, 0] rfl (tX6_knownIn_4 C N N _ a0 a1 (0 : Int32) (0 : Int32))
def bX6_takenBy_41 (N : Nat) (r5 : AH → Nat → Int32 → Int32 → Int32 → Int32 → Option (Int32 × AH)) (h : AH) (a0 : Nat) (x1 : Int32) (x2 : Int32) (x3 : Int32) (x4 : Int32) : Option (Int32 × AH) :=
  (zgR h a0 6 7).bind fun a_1 =>
  (zald 0 h a_1 x4).bind fun v_2 =>
  znm (x3 ||| v_2) fun y_3 =>
  r5 h a0 x1 x2 y_3 (x4 + (1 : Int32))
theorem tX6_takenBy_41 {X : zX} {g : zG} (C : zC X g yX6_takenBy cX6_takenBy 5 1 0 0 (some .int)) (N : Nat) {r5 : AH → Nat → Int32 → Int32 → Int32 → Int32 → Option (Int32 × AH)} (hr5 : ∀ (h : AH) (a0 : Nat) (x1 : Int32) (x2 : Int32) (x3 : Int32) (x4 : Int32), ZZ X g 5 (0, 0, 0, 0) (fun v : Int32 => some (.int v)) (r5 h a0 x1 x2 x3 x4) h 5 [(0, .ref a0), (1, .int x1), (2, .int x2), (3, .int x3), (4, .int x4)] []) (h : AH) (a0 : Nat) (x1 : Int32) (x2 : Int32) (x3 : Int32) (x4 : Int32) : ZZ X g 5 (0, 0, 0, 0) (fun v : Int32 => some (.int v)) (bX6_takenBy_41 N r5 h a0 x1 x2 x3 x4) h 41 [(0, .ref a0), (1, .int x1), (2, .int x2), (3, .int x3), (4, .int x4)] [] := by
  unfold bX6_takenBy_41
  refine z_iload_n C 3 dX6_takenBy_41 rfl ?_
  refine z_aload_n C 0 dX6_takenBy_42 rfl ?_
  refine z_getR C qX6_34 dX6_takenBy_43 (fun a_1 => ?_)
  refine z_iload C 4 dX6_takenBy_46 rfl ?_
  refine z_iaload C dX6_takenBy_48 (fun v_2 => ?_)
  refine z_ior C dX6_takenBy_49 ?_
  refine z_nmI (fun y_3 => ?_)
  refine z_istore_n C dX6_takenBy_50 [(3, .int y_3), (0, .ref a0), (1, .int x1), (2, .int x2), (4, .int x4)] (by decide) rfl ?_
  refine z_iinc (v := x4 + (1 : Int32)) C 4 dX6_takenBy_51 [(4, .int (x4 + (1 : Int32))), (3, .int y_3), (0, .ref a0), (1, .int x1), (2, .int x2)] rfl rfl (by decide) rfl ?_
  refine z_goto C 5 dX6_takenBy_54 rfl ?_
  exact z_lv _ [2, 3, 4, 1, 0] rfl (hr5 _ a0 x1 x2 y_3 (x4 + (1 : Int32)))
def bX6_takenBy_5 (N : Nat) (r5 : AH → Nat → Int32 → Int32 → Int32 → Int32 → Option (Int32 × AH)) (h : AH) (a0 : Nat) (x1 : Int32) (x2 : Int32) (x3 : Int32) (x4 : Int32) : Option (Int32 × AH) :=
  (zgI h a0 6 5).bind fun v_1 =>
  (if v_1 ≤ x4 then
  some (x3, h)
  else
  (zgR h a0 6 6).bind fun a_2 =>
  (zald 0 h a_2 x4).bind fun v_3 =>
  (if v_3 = x1 then
  (if x2 = (-1 : Int32) then
  bX6_takenBy_41 N r5 h a0 x1 x2 x3 x4
  else
  (zgR h a0 6 8).bind fun a_4 =>
  (zald 0 h a_4 x4).bind fun v_5 =>
  (if v_5 = x2 then
  bX6_takenBy_41 N r5 h a0 x1 x2 x3 x4
  else
  r5 h a0 x1 x2 x3 (x4 + (1 : Int32))))
  else
  r5 h a0 x1 x2 x3 (x4 + (1 : Int32))))
theorem tX6_takenBy_5 {X : zX} {g : zG} (C : zC X g yX6_takenBy cX6_takenBy 5 1 0 0 (some .int)) (N : Nat) (n : Nat) : ∀ (h : AH) (a0 : Nat) (x1 : Int32) (x2 : Int32) (x3 : Int32) (x4 : Int32), ZZ X g 5 (0, 0, 0, 0) (fun v : Int32 => some (.int v)) (zfix (fun _ _ _ _ _ _ => none) (bX6_takenBy_5 N) n h a0 x1 x2 x3 x4) h 5 [(0, .ref a0), (1, .int x1), (2, .int x2), (3, .int x3), (4, .int x4)] [] := by
  induction n with
  | zero => intro h a0 x1 x2 x3 x4; exact z_none
  | succ n hr5 =>
    intro h a0 x1 x2 x3 x4
    show ZZ X g 5 (0, 0, 0, 0) _ (bX6_takenBy_5 N (zfix (fun _ _ _ _ _ _ => none) (bX6_takenBy_5 N) n) h a0 x1 x2 x3 x4) h 5 _ _
    unfold bX6_takenBy_5
    refine z_iload C 4 dX6_takenBy_5 rfl ?_
    refine z_aload_n C 0 dX6_takenBy_7 rfl ?_
    refine z_getI C qX6_28 dX6_takenBy_8 (fun v_1 => ?_)
    refine z_icmpge C 57 dX6_takenBy_11 rfl ?_ ?_
    · refine z_iload_n C 3 dX6_takenBy_57 rfl ?_
      exact z_ireturn C ⟨rfl, rfl⟩ dX6_takenBy_58
    · refine z_aload_n C 0 dX6_takenBy_14 rfl ?_
      refine z_getR C qX6_31 dX6_takenBy_15 (fun a_2 => ?_)
      refine z_iload C 4 dX6_takenBy_18 rfl ?_
      refine z_iaload C dX6_takenBy_20 (fun v_3 => ?_)
      refine z_iload_n C 1 dX6_takenBy_21 rfl ?_
      refine z_icmpne C 51 dX6_takenBy_22 rfl ?_ ?_
      · refine z_iinc (v := x4 + (1 : Int32)) C 4 dX6_takenBy_51 [(4, .int (x4 + (1 : Int32))), (0, .ref a0), (1, .int x1), (2, .int x2), (3, .int x3)] rfl rfl (by decide) rfl ?_
        refine z_goto C 5 dX6_takenBy_54 rfl ?_
        exact z_lv _ [1, 2, 3, 4, 0] rfl (hr5 _ a0 x1 x2 x3 (x4 + (1 : Int32)))
      · refine z_iload_n C 2 dX6_takenBy_25 rfl ?_
        refine z_iconst (v := (-1 : Int32)) C dX6_takenBy_26 rfl ?_
        refine z_icmpeq C 41 dX6_takenBy_27 rfl ?_ ?_
        · exact z_lv _ [0, 1, 2, 3, 4] rfl (tX6_takenBy_41 C N hr5 _ a0 x1 x2 x3 x4)
        · refine z_aload_n C 0 dX6_takenBy_30 rfl ?_
          refine z_getR C qX6_37 dX6_takenBy_31 (fun a_4 => ?_)
          refine z_iload C 4 dX6_takenBy_34 rfl ?_
          refine z_iaload C dX6_takenBy_36 (fun v_5 => ?_)
          refine z_iload_n C 2 dX6_takenBy_37 rfl ?_
          refine z_icmpne C 51 dX6_takenBy_38 rfl ?_ ?_
          · refine z_iinc (v := x4 + (1 : Int32)) C 4 dX6_takenBy_51 [(4, .int (x4 + (1 : Int32))), (0, .ref a0), (1, .int x1), (2, .int x2), (3, .int x3)] rfl rfl (by decide) rfl ?_
            refine z_goto C 5 dX6_takenBy_54 rfl ?_
            exact z_lv _ [1, 2, 3, 4, 0] rfl (hr5 _ a0 x1 x2 x3 (x4 + (1 : Int32)))
          · exact z_lv _ [0, 1, 2, 3, 4] rfl (tX6_takenBy_41 C N hr5 _ a0 x1 x2 x3 x4)
def fX6_takenBy (N : Nat) (h : AH) (a0 : Nat) (x1 : Int32) (x2 : Int32) : Option (Int32 × AH) :=
  zfix (fun _ _ _ _ _ _ => none) (bX6_takenBy_5 N) N h a0 x1 x2 (0 : Int32) (0 : Int32)
theorem kX6_takenBy {l : Launch} {g : zG} (N : Nat) (h : AH) (a0 : Nat) (x1 : Int32) (x2 : Int32) : zM l g yX6_takenBy cX6_takenBy 5 (some .int) (1) 0 0 (fun v : Int32 => some (.int v)) (fX6_takenBy N h a0 x1 x2) h [.ref a0, .int x1, .int x2] := by
  refine zM.of (lv0 := [(0, .ref a0), (1, .int x1), (2, .int x2)]) (by decide) (Nat.le_of_ble_eq_true rfl) rfl (fun X hX C => ?_)
  subst hX
  unfold fX6_takenBy
  refine z_iconst (v := (0 : Int32)) C dX6_takenBy_0 rfl ?_
  refine z_istore_n C dX6_takenBy_1 [(3, .int (0 : Int32)), (0, .ref a0), (1, .int x1), (2, .int x2)] (by decide) rfl ?_
  refine z_iconst (v := (0 : Int32)) C dX6_takenBy_2 rfl ?_
  refine z_istore C dX6_takenBy_3 [(4, .int (0 : Int32)), (3, .int (0 : Int32)), (0, .ref a0), (1, .int x1), (2, .int x2)] (by decide) rfl ?_
  exact z_lv _ [2, 3, 4, 1, 0] rfl (tX6_takenBy_5 C N N _ a0 x1 x2 (0 : Int32) (0 : Int32))
def bX6_heldWithout_4 (N : Nat) (r4 : AH → Nat → Int32 → Int32 → Int32 → Option (Int32 × AH)) (h : AH) (a0 : Nat) (x1 : Int32) (x2 : Int32) (x3 : Int32) : Option (Int32 × AH) :=
  (zgI h a0 6 9).bind fun v_1 =>
  (if v_1 ≤ x3 then
  some (x2, h)
  else
  (if x3 = x1 then
  r4 h a0 x1 x2 (x3 + (1 : Int32))
  else
  (zis h a0 6).bind fun _ =>
  zcall (fX6_isOut N h a0 x3) fun v_3 h_2 =>
  (if v_3 = (0) then
  (zgR h_2 a0 6 10).bind fun a_5 =>
  (zald 0 h_2 a_5 x3).bind fun v_6 =>
  znm (x2 ||| v_6) fun y_7 =>
  r4 h_2 a0 x1 y_7 (x3 + (1 : Int32))
  else
  r4 h_2 a0 x1 x2 (x3 + (1 : Int32)))))
theorem tX6_heldWithout_4 {X : zX} {g : zG} (C : zC X g yX6_heldWithout cX6_heldWithout 4 2 0 0 (some .int)) (N : Nat) (n : Nat) : ∀ (h : AH) (a0 : Nat) (x1 : Int32) (x2 : Int32) (x3 : Int32), ZZ X g 4 (0, 0, 0, 0) (fun v : Int32 => some (.int v)) (zfix (fun _ _ _ _ _ => none) (bX6_heldWithout_4 N) n h a0 x1 x2 x3) h 4 [(0, .ref a0), (1, .int x1), (2, .int x2), (3, .int x3)] [] := by
  induction n with
  | zero => intro h a0 x1 x2 x3; exact z_none
  | succ n hr4 =>
    intro h a0 x1 x2 x3
    show ZZ X g 4 (0, 0, 0, 0) _ (bX6_heldWithout_4 N (zfix (fun _ _ _ _ _ => none) (bX6_heldWithout_4 N) n) h a0 x1 x2 x3) h 4 _ _
    unfold bX6_heldWithout_4
    refine z_iload_n C 3 dX6_heldWithout_4 rfl ?_
    refine z_aload_n C 0 dX6_heldWithout_5 rfl ?_
    refine z_getI C qX6_40 dX6_heldWithout_6 (fun v_1 => ?_)
    refine z_icmpge C 40 dX6_heldWithout_9 rfl ?_ ?_
    · refine z_iload_n C 2 dX6_heldWithout_40 rfl ?_
      exact z_ireturn C ⟨rfl, rfl⟩ dX6_heldWithout_41
    · refine z_iload_n C 3 dX6_heldWithout_12 rfl ?_
      refine z_iload_n C 1 dX6_heldWithout_13 rfl ?_
      refine z_icmpeq C 34 dX6_heldWithout_14 rfl ?_ ?_
      · refine z_iinc (v := x3 + (1 : Int32)) C 3 dX6_heldWithout_34 [(3, .int (x3 + (1 : Int32))), (0, .ref a0), (1, .int x1), (2, .int x2)] rfl rfl (by decide) rfl ?_
        refine z_goto C 4 dX6_heldWithout_37 rfl ?_
        exact z_lv _ [1, 2, 3, 0] rfl (hr4 _ a0 x1 x2 (x3 + (1 : Int32)))
      · refine z_aload_n C 0 dX6_heldWithout_17 rfl ?_
        refine z_iload_n C 3 dX6_heldWithout_18 rfl ?_
        refine z_bind (fun _ q_4 => ?_)
        refine z_calli (z_runV (As := [.int x3]) (rest := []) C mX6_85 (kX6_isOut N h a0 x3) q_4 (Nat.le_of_ble_eq_true rfl) ⟨Nat.zero_le _, Nat.zero_le _⟩ dX6_heldWithout_19 rfl rfl (Nat.le_of_ble_eq_true rfl)) rfl (fun v_3 h_2 => ?_)
        refine z_ifne C 34 dX6_heldWithout_22 rfl ?_ ?_
        · refine z_iinc (v := x3 + (1 : Int32)) C 3 dX6_heldWithout_34 [(3, .int (x3 + (1 : Int32))), (0, .ref a0), (1, .int x1), (2, .int x2)] rfl rfl (by decide) rfl ?_
          refine z_goto C 4 dX6_heldWithout_37 rfl ?_
          exact z_lv _ [1, 2, 3, 0] rfl (hr4 _ a0 x1 x2 (x3 + (1 : Int32)))
        · refine z_iload_n C 2 dX6_heldWithout_25 rfl ?_
          refine z_aload_n C 0 dX6_heldWithout_26 rfl ?_
          refine z_getR C qX6_43 dX6_heldWithout_27 (fun a_5 => ?_)
          refine z_iload_n C 3 dX6_heldWithout_30 rfl ?_
          refine z_iaload C dX6_heldWithout_31 (fun v_6 => ?_)
          refine z_ior C dX6_heldWithout_32 ?_
          refine z_nmI (fun y_7 => ?_)
          refine z_istore_n C dX6_heldWithout_33 [(2, .int y_7), (0, .ref a0), (1, .int x1), (3, .int x3)] (by decide) rfl ?_
          refine z_iinc (v := x3 + (1 : Int32)) C 3 dX6_heldWithout_34 [(3, .int (x3 + (1 : Int32))), (2, .int y_7), (0, .ref a0), (1, .int x1)] rfl rfl (by decide) rfl ?_
          refine z_goto C 4 dX6_heldWithout_37 rfl ?_
          exact z_lv _ [2, 3, 1, 0] rfl (hr4 _ a0 x1 y_7 (x3 + (1 : Int32)))
def fX6_heldWithout (N : Nat) (h : AH) (a0 : Nat) (x1 : Int32) : Option (Int32 × AH) :=
  zfix (fun _ _ _ _ _ => none) (bX6_heldWithout_4 N) N h a0 x1 (0 : Int32) (0 : Int32)
theorem kX6_heldWithout {l : Launch} {g : zG} (N : Nat) (h : AH) (a0 : Nat) (x1 : Int32) : zM l g yX6_heldWithout cX6_heldWithout 4 (some .int) (2) 0 0 (fun v : Int32 => some (.int v)) (fX6_heldWithout N h a0 x1) h [.ref a0, .int x1] := by
  refine zM.of (lv0 := [(0, .ref a0), (1, .int x1)]) (by decide) (Nat.le_of_ble_eq_true rfl) rfl (fun X hX C => ?_)
  subst hX
  unfold fX6_heldWithout
  refine z_iconst (v := (0 : Int32)) C dX6_heldWithout_0 rfl ?_
  refine z_istore_n C dX6_heldWithout_1 [(2, .int (0 : Int32)), (0, .ref a0), (1, .int x1)] (by decide) rfl ?_
  refine z_iconst (v := (0 : Int32)) C dX6_heldWithout_2 rfl ?_
  refine z_istore_n C dX6_heldWithout_3 [(3, .int (0 : Int32)), (2, .int (0 : Int32)), (0, .ref a0), (1, .int x1)] (by decide) rfl ?_
  exact z_lv _ [2, 3, 1, 0] rfl (tX6_heldWithout_4 C N N _ a0 x1 (0 : Int32) (0 : Int32))
def bX6_heldByCrew_4 (N : Nat) (r4 : AH → Nat → Int32 → Int32 → Int32 → Option (Int32 × AH)) (h : AH) (a0 : Nat) (x1 : Int32) (x2 : Int32) (x3 : Int32) : Option (Int32 × AH) :=
  (zgI h a0 6 9).bind fun v_1 =>
  (if v_1 ≤ x3 then
  some (x2, h)
  else
  (if ((x1 >>> (x3 &&& 31)) &&& (1 : Int32)) = (0) then
  r4 h a0 x1 x2 (x3 + (1 : Int32))
  else
  (zgR h a0 6 10).bind fun a_2 =>
  (zald 0 h a_2 x3).bind fun v_3 =>
  znm (x2 ||| v_3) fun y_4 =>
  r4 h a0 x1 y_4 (x3 + (1 : Int32))))
theorem tX6_heldByCrew_4 {X : zX} {g : zG} (C : zC X g yX6_heldByCrew cX6_heldByCrew 4 1 0 0 (some .int)) (N : Nat) (n : Nat) : ∀ (h : AH) (a0 : Nat) (x1 : Int32) (x2 : Int32) (x3 : Int32), ZZ X g 4 (0, 0, 0, 0) (fun v : Int32 => some (.int v)) (zfix (fun _ _ _ _ _ => none) (bX6_heldByCrew_4 N) n h a0 x1 x2 x3) h 4 [(0, .ref a0), (1, .int x1), (2, .int x2), (3, .int x3)] [] := by
  induction n with
  | zero => intro h a0 x1 x2 x3; exact z_none
  | succ n hr4 =>
    intro h a0 x1 x2 x3
    show ZZ X g 4 (0, 0, 0, 0) _ (bX6_heldByCrew_4 N (zfix (fun _ _ _ _ _ => none) (bX6_heldByCrew_4 N) n) h a0 x1 x2 x3) h 4 _ _
    unfold bX6_heldByCrew_4
    refine z_iload_n C 3 dX6_heldByCrew_4 rfl ?_
    refine z_aload_n C 0 dX6_heldByCrew_5 rfl ?_
    refine z_getI C qX6_40 dX6_heldByCrew_6 (fun v_1 => ?_)
    refine z_icmpge C 35 dX6_heldByCrew_9 rfl ?_ ?_
    · refine z_iload_n C 2 dX6_heldByCrew_35 rfl ?_
      exact z_ireturn C ⟨rfl, rfl⟩ dX6_heldByCrew_36
    · refine z_iload_n C 1 dX6_heldByCrew_12 rfl ?_
      refine z_iload_n C 3 dX6_heldByCrew_13 rfl ?_
      refine z_ishr C dX6_heldByCrew_14 ?_
      refine z_iconst (v := (1 : Int32)) C dX6_heldByCrew_15 rfl ?_
      refine z_iand C dX6_heldByCrew_16 ?_
      refine z_ifeq C 29 dX6_heldByCrew_17 rfl ?_ ?_
      · refine z_iinc (v := x3 + (1 : Int32)) C 3 dX6_heldByCrew_29 [(3, .int (x3 + (1 : Int32))), (0, .ref a0), (1, .int x1), (2, .int x2)] rfl rfl (by decide) rfl ?_
        refine z_goto C 4 dX6_heldByCrew_32 rfl ?_
        exact z_lv _ [1, 2, 3, 0] rfl (hr4 _ a0 x1 x2 (x3 + (1 : Int32)))
      · refine z_iload_n C 2 dX6_heldByCrew_20 rfl ?_
        refine z_aload_n C 0 dX6_heldByCrew_21 rfl ?_
        refine z_getR C qX6_43 dX6_heldByCrew_22 (fun a_2 => ?_)
        refine z_iload_n C 3 dX6_heldByCrew_25 rfl ?_
        refine z_iaload C dX6_heldByCrew_26 (fun v_3 => ?_)
        refine z_ior C dX6_heldByCrew_27 ?_
        refine z_nmI (fun y_4 => ?_)
        refine z_istore_n C dX6_heldByCrew_28 [(2, .int y_4), (0, .ref a0), (1, .int x1), (3, .int x3)] (by decide) rfl ?_
        refine z_iinc (v := x3 + (1 : Int32)) C 3 dX6_heldByCrew_29 [(3, .int (x3 + (1 : Int32))), (2, .int y_4), (0, .ref a0), (1, .int x1)] rfl rfl (by decide) rfl ?_
        refine z_goto C 4 dX6_heldByCrew_32 rfl ?_
        exact z_lv _ [2, 3, 1, 0] rfl (hr4 _ a0 x1 y_4 (x3 + (1 : Int32)))
def fX6_heldByCrew (N : Nat) (h : AH) (a0 : Nat) (x1 : Int32) : Option (Int32 × AH) :=
  zfix (fun _ _ _ _ _ => none) (bX6_heldByCrew_4 N) N h a0 x1 (0 : Int32) (0 : Int32)
theorem kX6_heldByCrew {l : Launch} {g : zG} (N : Nat) (h : AH) (a0 : Nat) (x1 : Int32) : zM l g yX6_heldByCrew cX6_heldByCrew 4 (some .int) (1) 0 0 (fun v : Int32 => some (.int v)) (fX6_heldByCrew N h a0 x1) h [.ref a0, .int x1] := by
  refine zM.of (lv0 := [(0, .ref a0), (1, .int x1)]) (by decide) (Nat.le_of_ble_eq_true rfl) rfl (fun X hX C => ?_)
  subst hX
  unfold fX6_heldByCrew
  refine z_iconst (v := (0 : Int32)) C dX6_heldByCrew_0 rfl ?_
  refine z_istore_n C dX6_heldByCrew_1 [(2, .int (0 : Int32)), (0, .ref a0), (1, .int x1)] (by decide) rfl ?_
  refine z_iconst (v := (0 : Int32)) C dX6_heldByCrew_2 rfl ?_
  refine z_istore_n C dX6_heldByCrew_3 [(3, .int (0 : Int32)), (2, .int (0 : Int32)), (0, .ref a0), (1, .int x1)] (by decide) rfl ?_
  exact z_lv _ [2, 3, 1, 0] rfl (tX6_heldByCrew_4 C N N _ a0 x1 (0 : Int32) (0 : Int32))
def bX6_smallestCrew_60 (N : Nat) (r24 : AH → Nat → Int32 → Int32 → Int32 → Option (Int32 × AH)) (h : AH) (a0 : Nat) (x1 : Int32) (x2 : Int32) (x3 : Int32) (x4 : Int32) (s0 : Int32) : Option (Int32 × AH) :=
  (if x4 = (0) then
  r24 h a0 x1 x2 (x3 + (-1 : Int32))
  else
  (if s0 = (0) then
  r24 h a0 x1 x2 (x3 + (-1 : Int32))
  else
  (zis h a0 6).bind fun _ =>
  zcall (fX6_heldByCrew N h a0 x3) fun v_2 h_1 =>
  (if v_2 = x1 then
  r24 h_1 a0 x1 x3 (x3 + (-1 : Int32))
  else
  r24 h_1 a0 x1 x2 (x3 + (-1 : Int32)))))
theorem tX6_smallestCrew_60 {X : zX} {g : zG} (C : zC X g yX6_smallestCrew cX6_smallestCrew 6 3 0 0 (some .int)) (N : Nat) {r24 : AH → Nat → Int32 → Int32 → Int32 → Option (Int32 × AH)} (hr24 : ∀ (h : AH) (a0 : Nat) (x1 : Int32) (x2 : Int32) (x3 : Int32), ZZ X g 6 (0, 0, 0, 0) (fun v : Int32 => some (.int v)) (r24 h a0 x1 x2 x3) h 24 [(0, .ref a0), (1, .int x1), (2, .int x2), (3, .int x3)] []) (h : AH) (a0 : Nat) (x1 : Int32) (x2 : Int32) (x3 : Int32) (x4 : Int32) (s0 : Int32) : ZZ X g 6 (0, 0, 0, 0) (fun v : Int32 => some (.int v)) (bX6_smallestCrew_60 N r24 h a0 x1 x2 x3 x4 s0) h 60 [(0, .ref a0), (1, .int x1), (2, .int x2), (3, .int x3), (4, .int x4)] [.int s0] := by
  unfold bX6_smallestCrew_60
  refine z_istore C dX6_smallestCrew_60 [(5, .int s0), (0, .ref a0), (1, .int x1), (2, .int x2), (3, .int x3), (4, .int x4)] (by decide) rfl ?_
  refine z_iload C 5 dX6_smallestCrew_62 rfl ?_
  refine z_ifeq C 83 dX6_smallestCrew_64 rfl ?_ ?_
  · refine z_iinc (v := x3 + (-1 : Int32)) C 4 dX6_smallestCrew_83 [(3, .int (x3 + (-1 : Int32))), (5, .int s0), (0, .ref a0), (1, .int x1), (2, .int x2), (4, .int x4)] rfl rfl (by decide) rfl ?_
    refine z_goto C 24 dX6_smallestCrew_86 rfl ?_
    exact z_lv _ [2, 3, 4, 0] rfl (hr24 _ a0 x1 x2 (x3 + (-1 : Int32)))
  · refine z_iload C 0 dX6_smallestCrew_67 rfl ?_
    refine z_ifeq C 83 dX6_smallestCrew_69 rfl ?_ ?_
    · refine z_iinc (v := x3 + (-1 : Int32)) C 4 dX6_smallestCrew_83 [(3, .int (x3 + (-1 : Int32))), (5, .int s0), (0, .ref a0), (1, .int x1), (2, .int x2), (4, .int x4)] rfl rfl (by decide) rfl ?_
      refine z_goto C 24 dX6_smallestCrew_86 rfl ?_
      exact z_lv _ [2, 3, 4, 0] rfl (hr24 _ a0 x1 x2 (x3 + (-1 : Int32)))
    · refine z_aload_n C 1 dX6_smallestCrew_72 rfl ?_
      refine z_iload_n C 4 dX6_smallestCrew_73 rfl ?_
      refine z_bind (fun _ q_3 => ?_)
      refine z_calli (z_runV (As := [.int x3]) (rest := []) C mX6_91 (kX6_heldByCrew N h a0 x3) q_3 (Nat.le_of_ble_eq_true rfl) ⟨Nat.zero_le _, Nat.zero_le _⟩ dX6_smallestCrew_74 rfl rfl (Nat.le_of_ble_eq_true rfl)) rfl (fun v_2 h_1 => ?_)
      refine z_iload_n C 2 dX6_smallestCrew_77 rfl ?_
      refine z_icmpne C 83 dX6_smallestCrew_78 rfl ?_ ?_
      · refine z_iinc (v := x3 + (-1 : Int32)) C 4 dX6_smallestCrew_83 [(3, .int (x3 + (-1 : Int32))), (5, .int s0), (0, .ref a0), (1, .int x1), (2, .int x2), (4, .int x4)] rfl rfl (by decide) rfl ?_
        refine z_goto C 24 dX6_smallestCrew_86 rfl ?_
        exact z_lv _ [2, 3, 4, 0] rfl (hr24 _ a0 x1 x2 (x3 + (-1 : Int32)))
      · refine z_iload_n C 4 dX6_smallestCrew_81 rfl ?_
        refine z_istore_n C dX6_smallestCrew_82 [(2, .int x3), (5, .int s0), (0, .ref a0), (1, .int x1), (3, .int x3), (4, .int x4)] (by decide) rfl ?_
        refine z_iinc (v := x3 + (-1 : Int32)) C 4 dX6_smallestCrew_83 [(3, .int (x3 + (-1 : Int32))), (2, .int x3), (5, .int s0), (0, .ref a0), (1, .int x1), (4, .int x4)] rfl rfl (by decide) rfl ?_
        refine z_goto C 24 dX6_smallestCrew_86 rfl ?_
        exact z_lv _ [3, 4, 1, 0] rfl (hr24 _ a0 x1 x3 (x3 + (-1 : Int32)))
def bX6_smallestCrew_42 (N : Nat) (r24 : AH → Nat → Int32 → Int32 → Int32 → Option (Int32 × AH)) (h : AH) (a0 : Nat) (x1 : Int32) (x2 : Int32) (x3 : Int32) (s0 : Int32) : Option (Int32 × AH) :=
  zcall (fJ6_bitCount_0f7a4 N h x3) fun v_2 h_1 =>
  zcall (fJ6_bitCount_0f7a4 N h_1 x2) fun v_4 h_3 =>
  (if v_4 < v_2 then
  bX6_smallestCrew_60 N r24 h_3 a0 x1 x2 x3 s0 (0 : Int32)
  else
  bX6_smallestCrew_60 N r24 h_3 a0 x1 x2 x3 s0 (1 : Int32))
theorem tX6_smallestCrew_42 {X : zX} {g : zG} (C : zC X g yX6_smallestCrew cX6_smallestCrew 6 3 0 0 (some .int)) (N : Nat) {r24 : AH → Nat → Int32 → Int32 → Int32 → Option (Int32 × AH)} (hr24 : ∀ (h : AH) (a0 : Nat) (x1 : Int32) (x2 : Int32) (x3 : Int32), ZZ X g 6 (0, 0, 0, 0) (fun v : Int32 => some (.int v)) (r24 h a0 x1 x2 x3) h 24 [(0, .ref a0), (1, .int x1), (2, .int x2), (3, .int x3)] []) (h : AH) (a0 : Nat) (x1 : Int32) (x2 : Int32) (x3 : Int32) (s0 : Int32) : ZZ X g 6 (0, 0, 0, 0) (fun v : Int32 => some (.int v)) (bX6_smallestCrew_42 N r24 h a0 x1 x2 x3 s0) h 42 [(0, .ref a0), (1, .int x1), (2, .int x2), (3, .int x3)] [.int s0] := by
  unfold bX6_smallestCrew_42
  refine z_istore C dX6_smallestCrew_42 [(4, .int s0), (0, .ref a0), (1, .int x1), (2, .int x2), (3, .int x3)] (by decide) rfl ?_
  refine z_iload_n C 4 dX6_smallestCrew_44 rfl ?_
  refine z_calli (z_runS (As := [.int x3]) (rest := []) C mX6_79 (kJ6_bitCount_0f7a4 N h x3) (Nat.le_of_ble_eq_true rfl) ⟨Nat.zero_le _, Nat.zero_le _⟩ dX6_smallestCrew_45 rfl rfl (Nat.le_of_ble_eq_true rfl)) rfl (fun v_2 h_1 => ?_)
  refine z_iload_n C 3 dX6_smallestCrew_48 rfl ?_
  refine z_calli (z_runS (As := [.int x2]) (rest := [.int v_2]) C mX6_79 (kJ6_bitCount_0f7a4 N h_1 x2) (Nat.le_of_ble_eq_true rfl) ⟨Nat.zero_le _, Nat.zero_le _⟩ dX6_smallestCrew_49 rfl rfl (Nat.le_of_ble_eq_true rfl)) rfl (fun v_4 h_3 => ?_)
  refine z_icmpgt C 59 dX6_smallestCrew_52 rfl ?_ ?_
  · refine z_iconst (v := (0 : Int32)) C dX6_smallestCrew_59 rfl ?_
    exact z_lv _ [1, 2, 3, 4, 0] rfl (tX6_smallestCrew_60 C N hr24 _ a0 x1 x2 x3 s0 (0 : Int32))
  · refine z_iconst (v := (1 : Int32)) C dX6_smallestCrew_55 rfl ?_
    refine z_goto C 60 dX6_smallestCrew_56 rfl ?_
    exact z_lv _ [1, 2, 3, 4, 0] rfl (tX6_smallestCrew_60 C N hr24 _ a0 x1 x2 x3 s0 (1 : Int32))
def bX6_smallestCrew_24 (N : Nat) (r24 : AH → Nat → Int32 → Int32 → Int32 → Option (Int32 × AH)) (h : AH) (a0 : Nat) (x1 : Int32) (x2 : Int32) (x3 : Int32) : Option (Int32 × AH) :=
  (if x3 < (0) then
  some (x2, h)
  else
  (zgI h a0 6 11).bind fun v_1 =>
  (if (x3 &&& v_1) = (0) then
  bX6_smallestCrew_42 N r24 h a0 x1 x2 x3 (1 : Int32)
  else
  bX6_smallestCrew_42 N r24 h a0 x1 x2 x3 (0 : Int32)))
theorem tX6_smallestCrew_24 {X : zX} {g : zG} (C : zC X g yX6_smallestCrew cX6_smallestCrew 6 3 0 0 (some .int)) (N : Nat) (n : Nat) : ∀ (h : AH) (a0 : Nat) (x1 : Int32) (x2 : Int32) (x3 : Int32), ZZ X g 6 (0, 0, 0, 0) (fun v : Int32 => some (.int v)) (zfix (fun _ _ _ _ _ => none) (bX6_smallestCrew_24 N) n h a0 x1 x2 x3) h 24 [(0, .ref a0), (1, .int x1), (2, .int x2), (3, .int x3)] [] := by
  induction n with
  | zero => intro h a0 x1 x2 x3; exact z_none
  | succ n hr24 =>
    intro h a0 x1 x2 x3
    show ZZ X g 6 (0, 0, 0, 0) _ (bX6_smallestCrew_24 N (zfix (fun _ _ _ _ _ => none) (bX6_smallestCrew_24 N) n) h a0 x1 x2 x3) h 24 _ _
    unfold bX6_smallestCrew_24
    refine z_iload_n C 3 dX6_smallestCrew_24 rfl ?_
    refine z_iflt C 89 dX6_smallestCrew_25 rfl ?_ ?_
    · refine z_iload_n C 2 dX6_smallestCrew_89 rfl ?_
      exact z_ireturn C ⟨rfl, rfl⟩ dX6_smallestCrew_90
    · refine z_iload_n C 3 dX6_smallestCrew_28 rfl ?_
      refine z_aload_n C 0 dX6_smallestCrew_29 rfl ?_
      refine z_getI C qX6_46 dX6_smallestCrew_30 (fun v_1 => ?_)
      refine z_iand C dX6_smallestCrew_33 ?_
      refine z_ifne C 41 dX6_smallestCrew_34 rfl ?_ ?_
      · refine z_iconst (v := (0 : Int32)) C dX6_smallestCrew_41 rfl ?_
        exact z_lv _ [0, 1, 2, 3] rfl (tX6_smallestCrew_42 C N hr24 _ a0 x1 x2 x3 (0 : Int32))
      · refine z_iconst (v := (1 : Int32)) C dX6_smallestCrew_37 rfl ?_
        refine z_goto C 42 dX6_smallestCrew_38 rfl ?_
        exact z_lv _ [0, 1, 2, 3] rfl (tX6_smallestCrew_42 C N hr24 _ a0 x1 x2 x3 (1 : Int32))
def fX6_smallestCrew (N : Nat) (h : AH) (a0 : Nat) : Option (Int32 × AH) :=
  (zis h a0 6).bind fun _ =>
  zcall (fX6_heldWithout N h a0 (-1 : Int32)) fun v_2 h_1 =>
  (zgI h_1 a0 6 9).bind fun v_4 =>
  (zgI h_1 a0 6 11).bind fun v_5 =>
  znm ((((1 : Int32) <<< (v_4 &&& 31)) - (1 : Int32)) &&& (v_5 ^^^ (-1 : Int32))) fun y_6 =>
  zfix (fun _ _ _ _ _ => none) (bX6_smallestCrew_24 N) N h_1 a0 v_2 y_6 y_6
theorem kX6_smallestCrew {l : Launch} {g : zG} (N : Nat) (h : AH) (a0 : Nat) : zM l g yX6_smallestCrew cX6_smallestCrew 6 (some .int) (3) 0 0 (fun v : Int32 => some (.int v)) (fX6_smallestCrew N h a0) h [.ref a0] := by
  refine zM.of (lv0 := [(0, .ref a0)]) (by decide) (Nat.le_of_ble_eq_true rfl) rfl (fun X hX C => ?_)
  subst hX
  unfold fX6_smallestCrew
  refine z_aload_n C 0 dX6_smallestCrew_0 rfl ?_
  refine z_iconst (v := (-1 : Int32)) C dX6_smallestCrew_1 rfl ?_
  refine z_bind (fun _ q_3 => ?_)
  refine z_calli (z_runV (As := [.int (-1 : Int32)]) (rest := []) C mX6_88 (kX6_heldWithout N h a0 (-1 : Int32)) q_3 (Nat.le_of_ble_eq_true rfl) ⟨Nat.zero_le _, Nat.zero_le _⟩ dX6_smallestCrew_2 rfl rfl (Nat.le_of_ble_eq_true rfl)) rfl (fun v_2 h_1 => ?_)
  refine z_istore_n C dX6_smallestCrew_5 [(1, .int v_2), (0, .ref a0)] (by decide) rfl ?_
  refine z_iconst (v := (1 : Int32)) C dX6_smallestCrew_6 rfl ?_
  refine z_aload_n C 1 dX6_smallestCrew_7 rfl ?_
  refine z_getI C qX6_40 dX6_smallestCrew_8 (fun v_4 => ?_)
  refine z_ishl C dX6_smallestCrew_11 ?_
  refine z_iconst (v := (1 : Int32)) C dX6_smallestCrew_12 rfl ?_
  refine z_isub C dX6_smallestCrew_13 ?_
  refine z_aload_n C 1 dX6_smallestCrew_14 rfl ?_
  refine z_getI C qX6_46 dX6_smallestCrew_15 (fun v_5 => ?_)
  refine z_iconst (v := (-1 : Int32)) C dX6_smallestCrew_18 rfl ?_
  refine z_ixor C dX6_smallestCrew_19 ?_
  refine z_iand C dX6_smallestCrew_20 ?_
  refine z_nmI (fun y_6 => ?_)
  refine z_istore_n C dX6_smallestCrew_21 [(2, .int y_6), (1, .int v_2), (0, .ref a0)] (by decide) rfl ?_
  refine z_iload_n C 0 dX6_smallestCrew_22 rfl ?_
  refine z_istore_n C dX6_smallestCrew_23 [(3, .int y_6), (2, .int y_6), (1, .int v_2), (0, .ref a0)] (by decide) rfl ?_
  exact z_lv _ [3, 2, 1, 0] rfl (tX6_smallestCrew_24 C N N _ a0 v_2 y_6 y_6)
def fX6_lostWith (N : Nat) (h : AH) (a0 : Nat) (x1 : Int32) : Option (Int32 × AH) :=
  (zis h a0 6).bind fun _ =>
  zcall (fX6_isOut N h a0 x1) fun v_2 h_1 =>
  (if v_2 = (0) then
  (zgR h_1 a0 6 10).bind fun a_4 =>
  (zald 0 h_1 a_4 x1).bind fun v_5 =>
  (zis h_1 a0 6).bind fun _ =>
  zcall (fX6_heldWithout N h_1 a0 x1) fun v_7 h_6 =>
  some (v_5 &&& (v_7 ^^^ (-1 : Int32)), h_6)
  else
  some ((0 : Int32), h_1))
theorem kX6_lostWith {l : Launch} {g : zG} (N : Nat) (h : AH) (a0 : Nat) (x1 : Int32) : zM l g yX6_lostWith cX6_lostWith 2 (some .int) (3) 0 0 (fun v : Int32 => some (.int v)) (fX6_lostWith N h a0 x1) h [.ref a0, .int x1] := by
  refine zM.of (lv0 := [(0, .ref a0), (1, .int x1)]) (by decide) (Nat.le_of_ble_eq_true rfl) rfl (fun X hX C => ?_)
  subst hX
  unfold fX6_lostWith
  refine z_aload_n C 0 dX6_lostWith_0 rfl ?_
  refine z_iload_n C 1 dX6_lostWith_1 rfl ?_
  refine z_bind (fun _ q_3 => ?_)
  refine z_calli (z_runV (As := [.int x1]) (rest := []) C mX6_85 (kX6_isOut N h a0 x1) q_3 (Nat.le_of_ble_eq_true rfl) ⟨Nat.zero_le _, Nat.zero_le _⟩ dX6_lostWith_2 rfl rfl (Nat.le_of_ble_eq_true rfl)) rfl (fun v_2 h_1 => ?_)
  refine z_ifeq C 12 dX6_lostWith_5 rfl ?_ ?_
  · refine z_aload_n C 0 dX6_lostWith_12 rfl ?_
    refine z_getR C qX6_43 dX6_lostWith_13 (fun a_4 => ?_)
    refine z_iload_n C 1 dX6_lostWith_16 rfl ?_
    refine z_iaload C dX6_lostWith_17 (fun v_5 => ?_)
    refine z_aload_n C 0 dX6_lostWith_18 rfl ?_
    refine z_iload_n C 1 dX6_lostWith_19 rfl ?_
    refine z_bind (fun _ q_8 => ?_)
    refine z_calli (z_runV (As := [.int x1]) (rest := [.int v_5]) C mX6_88 (kX6_heldWithout N h_1 a0 x1) q_8 (Nat.le_of_ble_eq_true rfl) ⟨Nat.zero_le _, Nat.zero_le _⟩ dX6_lostWith_20 rfl rfl (Nat.le_of_ble_eq_true rfl)) rfl (fun v_7 h_6 => ?_)
    refine z_iconst (v := (-1 : Int32)) C dX6_lostWith_23 rfl ?_
    refine z_ixor C dX6_lostWith_24 ?_
    refine z_iand C dX6_lostWith_25 ?_
    exact z_ireturn C ⟨rfl, rfl⟩ dX6_lostWith_26
  · refine z_iconst (v := (0 : Int32)) C dX6_lostWith_8 rfl ?_
    refine z_goto C 26 dX6_lostWith_9 rfl ?_
    exact z_ireturn C ⟨rfl, rfl⟩ dX6_lostWith_26
def bX6_isSafe_2 (N : Nat) (r2 : AH → Nat → Int32 → Option (Int32 × AH)) (h : AH) (a0 : Nat) (x1 : Int32) : Option (Int32 × AH) :=
  (zgI h a0 6 9).bind fun v_1 =>
  (if v_1 ≤ x1 then
  zret .boolean (1 : Int32) h
  else
  (zis h a0 6).bind fun _ =>
  zcall (fX6_lostWith N h a0 x1) fun v_3 h_2 =>
  (if v_3 = (0) then
  r2 h_2 a0 (x1 + (1 : Int32))
  else
  zret .boolean (0 : Int32) h_2))
theorem tX6_isSafe_2 {X : zX} {g : zG} (C : zC X g yX6_isSafe cX6_isSafe 2 4 0 0 (some .boolean)) (N : Nat) (n : Nat) : ∀ (h : AH) (a0 : Nat) (x1 : Int32), ZZ X g 2 (0, 0, 0, 0) (fun v : Int32 => some (.int v)) (zfix (fun _ _ _ => none) (bX6_isSafe_2 N) n h a0 x1) h 2 [(0, .ref a0), (1, .int x1)] [] := by
  induction n with
  | zero => intro h a0 x1; exact z_none
  | succ n hr2 =>
    intro h a0 x1
    show ZZ X g 2 (0, 0, 0, 0) _ (bX6_isSafe_2 N (zfix (fun _ _ _ => none) (bX6_isSafe_2 N) n) h a0 x1) h 2 _ _
    unfold bX6_isSafe_2
    refine z_iload_n C 1 dX6_isSafe_2 rfl ?_
    refine z_aload_n C 0 dX6_isSafe_3 rfl ?_
    refine z_getI C qX6_40 dX6_isSafe_4 (fun v_1 => ?_)
    refine z_icmpge C 26 dX6_isSafe_7 rfl ?_ ?_
    · refine z_iconst (v := (1 : Int32)) C dX6_isSafe_26 rfl ?_
      exact z_zreturn C ⟨rfl, rfl⟩ dX6_isSafe_27
    · refine z_aload_n C 0 dX6_isSafe_10 rfl ?_
      refine z_iload_n C 1 dX6_isSafe_11 rfl ?_
      refine z_bind (fun _ q_4 => ?_)
      refine z_calli (z_runV (As := [.int x1]) (rest := []) C mX6_94 (kX6_lostWith N h a0 x1) q_4 (Nat.le_of_ble_eq_true rfl) ⟨Nat.zero_le _, Nat.zero_le _⟩ dX6_isSafe_12 rfl rfl (Nat.le_of_ble_eq_true rfl)) rfl (fun v_3 h_2 => ?_)
      refine z_ifeq C 20 dX6_isSafe_15 rfl ?_ ?_
      · refine z_iinc (v := x1 + (1 : Int32)) C 1 dX6_isSafe_20 [(1, .int (x1 + (1 : Int32))), (0, .ref a0)] rfl rfl (by decide) rfl ?_
        refine z_goto C 2 dX6_isSafe_23 rfl ?_
        exact z_lv _ [1, 0] rfl (hr2 _ a0 (x1 + (1 : Int32)))
      · refine z_iconst (v := (0 : Int32)) C dX6_isSafe_18 rfl ?_
        exact z_zreturn C ⟨rfl, rfl⟩ dX6_isSafe_19
def fX6_isSafe (N : Nat) (h : AH) (a0 : Nat) : Option (Int32 × AH) :=
  zfix (fun _ _ _ => none) (bX6_isSafe_2 N) N h a0 (0 : Int32)
theorem kX6_isSafe {l : Launch} {g : zG} (N : Nat) (h : AH) (a0 : Nat) : zM l g yX6_isSafe cX6_isSafe 2 (some .boolean) (4) 0 0 (fun v : Int32 => some (.int v)) (fX6_isSafe N h a0) h [.ref a0] := by
  refine zM.of (lv0 := [(0, .ref a0)]) (by decide) (Nat.le_of_ble_eq_true rfl) rfl (fun X hX C => ?_)
  subst hX
  unfold fX6_isSafe
  refine z_iconst (v := (0 : Int32)) C dX6_isSafe_0 rfl ?_
  refine z_istore_n C dX6_isSafe_1 [(1, .int (0 : Int32)), (0, .ref a0)] (by decide) rfl ?_
  exact z_lv _ [1, 0] rfl (tX6_isSafe_2 C N N _ a0 (0 : Int32))
def fX6_copyRow (N : Nat) (h : AH) (a0 : Nat) (a1 : Nat) : Option (Unit × AH) :=
  (zlen h a0).bind fun v_1 =>
  (zlen h a1).bind fun v_2 =>
  (zcopyI h a0 (0 : Int32) a1 (0 : Int32) (if v_2 < v_1 then v_2 else v_1)).bind fun h_3 =>
  some ((), h_3)
theorem kX6_copyRow {l : Launch} {g : zG} (N : Nat) (h : AH) (a0 : Nat) (a1 : Nat) : zM l g yX6_copyRow cX6_copyRow 2 none (1) 0 0 (fun _ : Unit => none) (fX6_copyRow N h a0 a1) h [.ref a0, .ref a1] := by
  refine zM.of (lv0 := [(0, .ref a0), (1, .ref a1)]) (by decide) (Nat.le_of_ble_eq_true rfl) rfl (fun X hX C => ?_)
  subst hX
  unfold fX6_copyRow
  refine z_aload_n C 0 dX6_copyRow_0 rfl ?_
  refine z_iconst (v := (0 : Int32)) C dX6_copyRow_1 rfl ?_
  refine z_aload_n C 1 dX6_copyRow_2 rfl ?_
  refine z_iconst (v := (0 : Int32)) C dX6_copyRow_3 rfl ?_
  refine z_aload_n C 0 dX6_copyRow_4 rfl ?_
  refine z_alen C dX6_copyRow_5 (fun v_1 => ?_)
  refine z_aload_n C 1 dX6_copyRow_6 rfl ?_
  refine z_alen C dX6_copyRow_7 (fun v_2 => ?_)
  refine z_mmin C mX6_105 dX6_copyRow_8 (Nat.le_of_ble_eq_true rfl) (by omega) ⟨Nat.zero_le _, Nat.zero_le _⟩ ?_
  refine z_copyI C w865 dX6_copyRow_11 (Nat.le_of_ble_eq_true rfl) (by omega) (fun h_3 => ?_)
  exact z_return C ⟨rfl, rfl⟩ dX6_copyRow_14
def bX6_copyTable_2 (N : Nat) (r2 : AH → Nat → Nat → Int32 → Option (Unit × AH)) (h : AH) (a0 : Nat) (a1 : Nat) (x2 : Int32) : Option (Unit × AH) :=
  (zlen h a0).bind fun v_1 =>
  (if v_1 ≤ x2 then
  some ((), h)
  else
  (zlen h a1).bind fun v_2 =>
  (if v_2 ≤ x2 then
  some ((), h)
  else
  (zaald 7 h a0 x2).bind fun a_3 =>
  (zaald 7 h a1 x2).bind fun a_4 =>
  zcall (fX6_copyRow N h a_3 a_4) fun _ h_5 =>
  r2 h_5 a0 a1 (x2 + (1 : Int32))))
theorem tX6_copyTable_2 {X : zX} {g : zG} (C : zC X g yX6_copyTable cX6_copyTable 3 2 0 0 none) (N : Nat) (n : Nat) : ∀ (h : AH) (a0 : Nat) (a1 : Nat) (x2 : Int32), ZZ X g 3 (0, 0, 0, 0) (fun _ : Unit => none) (zfix (fun _ _ _ _ => none) (bX6_copyTable_2 N) n h a0 a1 x2) h 2 [(0, .ref a0), (1, .ref a1), (2, .int x2)] [] := by
  induction n with
  | zero => intro h a0 a1 x2; exact z_none
  | succ n hr2 =>
    intro h a0 a1 x2
    show ZZ X g 3 (0, 0, 0, 0) _ (bX6_copyTable_2 N (zfix (fun _ _ _ _ => none) (bX6_copyTable_2 N) n) h a0 a1 x2) h 2 _ _
    unfold bX6_copyTable_2
    refine z_iload_n C 2 dX6_copyTable_2 rfl ?_
    refine z_aload_n C 0 dX6_copyTable_3 rfl ?_
    refine z_alen C dX6_copyTable_4 (fun v_1 => ?_)
    refine z_icmpge C 29 dX6_copyTable_5 rfl ?_ ?_
    · exact z_return C ⟨rfl, rfl⟩ dX6_copyTable_29
    · refine z_iload_n C 2 dX6_copyTable_8 rfl ?_
      refine z_aload_n C 1 dX6_copyTable_9 rfl ?_
      refine z_alen C dX6_copyTable_10 (fun v_2 => ?_)
      refine z_icmpge C 29 dX6_copyTable_11 rfl ?_ ?_
      · exact z_return C ⟨rfl, rfl⟩ dX6_copyTable_29
      · refine z_aload_n C 0 dX6_copyTable_14 rfl ?_
        refine z_iload_n C 2 dX6_copyTable_15 rfl ?_
        refine z_aaload C (by decide) dX6_copyTable_16 (fun a_3 => ?_)
        refine z_aload_n C 1 dX6_copyTable_17 rfl ?_
        refine z_iload_n C 2 dX6_copyTable_18 rfl ?_
        refine z_aaload C (by decide) dX6_copyTable_19 (fun a_4 => ?_)
        refine z_callv (z_runS (As := [.ref a_3, .ref a_4]) (rest := []) C mX6_97 (kX6_copyRow N h a_3 a_4) (Nat.le_of_ble_eq_true rfl) ⟨Nat.zero_le _, Nat.zero_le _⟩ dX6_copyTable_20 rfl rfl (Nat.le_of_ble_eq_true rfl)) rfl (fun _ h_5 => ?_)
        refine z_iinc (v := x2 + (1 : Int32)) C 2 dX6_copyTable_23 [(2, .int (x2 + (1 : Int32))), (0, .ref a0), (1, .ref a1)] rfl rfl (by decide) rfl ?_
        refine z_goto C 2 dX6_copyTable_26 rfl ?_
        exact z_lv _ [1, 2, 0] rfl (hr2 _ a0 a1 (x2 + (1 : Int32)))
def fX6_copyTable (N : Nat) (h : AH) (a0 : Nat) (a1 : Nat) : Option (Unit × AH) :=
  zfix (fun _ _ _ _ => none) (bX6_copyTable_2 N) N h a0 a1 (0 : Int32)
theorem kX6_copyTable {l : Launch} {g : zG} (N : Nat) (h : AH) (a0 : Nat) (a1 : Nat) : zM l g yX6_copyTable cX6_copyTable 3 none (2) 0 0 (fun _ : Unit => none) (fX6_copyTable N h a0 a1) h [.ref a0, .ref a1] := by
  refine zM.of (lv0 := [(0, .ref a0), (1, .ref a1)]) (by decide) (Nat.le_of_ble_eq_true rfl) rfl (fun X hX C => ?_)
  subst hX
  unfold fX6_copyTable
  refine z_iconst (v := (0 : Int32)) C dX6_copyTable_0 rfl ?_
  refine z_istore_n C dX6_copyTable_1 [(2, .int (0 : Int32)), (0, .ref a0), (1, .ref a1)] (by decide) rfl ?_
  exact z_lv _ [1, 2, 0] rfl (tX6_copyTable_2 C N N _ a0 a1 (0 : Int32))
def fX6_copyFrom (N : Nat) (h : AH) (a0 : Nat) (a1 : Nat) : Option (Unit × AH) :=
  (zgI h a1 6 0).bind fun v_1 =>
  (zput h a0 6 0 (.int v_1)).bind fun h_2 =>
  (zgR h_2 a1 6 1).bind fun a_3 =>
  (zgR h_2 a0 6 1).bind fun a_4 =>
  zcall (fX6_copyRow N h_2 a_3 a_4) fun _ h_5 =>
  (zgR h_5 a1 6 2).bind fun a_6 =>
  (zgR h_5 a0 6 2).bind fun a_7 =>
  zcall (fX6_copyRow N h_5 a_6 a_7) fun _ h_8 =>
  (zgR h_8 a1 6 3).bind fun a_9 =>
  (zgR h_8 a0 6 3).bind fun a_10 =>
  zcall (fX6_copyRow N h_8 a_9 a_10) fun _ h_11 =>
  (zgR h_11 a1 6 4).bind fun a_12 =>
  (zgR h_11 a0 6 4).bind fun a_13 =>
  zcall (fX6_copyRow N h_11 a_12 a_13) fun _ h_14 =>
  (zgI h_14 a1 6 5).bind fun v_15 =>
  (zput h_14 a0 6 5 (.int v_15)).bind fun h_16 =>
  (zgR h_16 a1 6 6).bind fun a_17 =>
  (zgR h_16 a0 6 6).bind fun a_18 =>
  zcall (fX6_copyRow N h_16 a_17 a_18) fun _ h_19 =>
  (zgR h_19 a1 6 7).bind fun a_20 =>
  (zgR h_19 a0 6 7).bind fun a_21 =>
  zcall (fX6_copyRow N h_19 a_20 a_21) fun _ h_22 =>
  (zgR h_22 a1 6 8).bind fun a_23 =>
  (zgR h_22 a0 6 8).bind fun a_24 =>
  zcall (fX6_copyRow N h_22 a_23 a_24) fun _ h_25 =>
  (zgI h_25 a1 6 9).bind fun v_26 =>
  (zput h_25 a0 6 9 (.int v_26)).bind fun h_27 =>
  (zgR h_27 a1 6 10).bind fun a_28 =>
  (zgR h_27 a0 6 10).bind fun a_29 =>
  zcall (fX6_copyRow N h_27 a_28 a_29) fun _ h_30 =>
  (zgI h_30 a1 6 11).bind fun v_31 =>
  (zput h_30 a0 6 11 (.int v_31)).bind fun h_32 =>
  (zgI h_32 a1 6 12).bind fun v_33 =>
  (zput h_32 a0 6 12 (.int v_33)).bind fun h_34 =>
  (zgI h_34 a1 6 13).bind fun v_35 =>
  (zput h_34 a0 6 13 (.int v_35)).bind fun h_36 =>
  (zgI h_36 a1 6 14).bind fun v_37 =>
  (zput h_36 a0 6 14 (.int v_37)).bind fun h_38 =>
  (zgR h_38 a1 6 15).bind fun a_39 =>
  (zgR h_38 a0 6 15).bind fun a_40 =>
  zcall (fX6_copyTable N h_38 a_39 a_40) fun _ h_41 =>
  (zgI h_41 a1 6 16).bind fun v_42 =>
  (zput h_41 a0 6 16 (.int v_42)).bind fun h_43 =>
  (zgR h_43 a1 6 17).bind fun a_44 =>
  (zgR h_43 a0 6 17).bind fun a_45 =>
  zcall (fX6_copyTable N h_43 a_44 a_45) fun _ h_46 =>
  (zgI h_46 a1 6 18).bind fun v_47 =>
  (zput h_46 a0 6 18 (.int v_47)).bind fun h_48 =>
  (zgR h_48 a1 6 19).bind fun a_49 =>
  (zgR h_48 a0 6 19).bind fun a_50 =>
  zcall (fX6_copyTable N h_48 a_49 a_50) fun _ h_51 =>
  some ((), h_51)
theorem kX6_copyFrom {l : Launch} {g : zG} (N : Nat) (h : AH) (a0 : Nat) (a1 : Nat) : zM l g yX6_copyFrom cX6_copyFrom 2 none (3) 0 0 (fun _ : Unit => none) (fX6_copyFrom N h a0 a1) h [.ref a0, .ref a1] := by
  refine zM.of (lv0 := [(0, .ref a0), (1, .ref a1)]) (by decide) (Nat.le_of_ble_eq_true rfl) rfl (fun X hX C => ?_)
  subst hX
  unfold fX6_copyFrom
  refine z_aload_n C 0 dX6_copyFrom_0 rfl ?_
  refine z_aload_n C 1 dX6_copyFrom_1 rfl ?_
  refine z_getI C qX6_9 dX6_copyFrom_2 (fun v_1 => ?_)
  refine z_putI C pX6_9 dX6_copyFrom_5 (fun h_2 => ?_)
  refine z_aload_n C 1 dX6_copyFrom_8 rfl ?_
  refine z_getR C qX6_15 dX6_copyFrom_9 (fun a_3 => ?_)
  refine z_aload_n C 0 dX6_copyFrom_12 rfl ?_
  refine z_getR C qX6_15 dX6_copyFrom_13 (fun a_4 => ?_)
  refine z_callv (z_runS (As := [.ref a_3, .ref a_4]) (rest := []) C mX6_97 (kX6_copyRow N h_2 a_3 a_4) (Nat.le_of_ble_eq_true rfl) ⟨Nat.zero_le _, Nat.zero_le _⟩ dX6_copyFrom_16 rfl rfl (Nat.le_of_ble_eq_true rfl)) rfl (fun _ h_5 => ?_)
  refine z_aload_n C 1 dX6_copyFrom_19 rfl ?_
  refine z_getR C qX6_19 dX6_copyFrom_20 (fun a_6 => ?_)
  refine z_aload_n C 0 dX6_copyFrom_23 rfl ?_
  refine z_getR C qX6_19 dX6_copyFrom_24 (fun a_7 => ?_)
  refine z_callv (z_runS (As := [.ref a_6, .ref a_7]) (rest := []) C mX6_97 (kX6_copyRow N h_5 a_6 a_7) (Nat.le_of_ble_eq_true rfl) ⟨Nat.zero_le _, Nat.zero_le _⟩ dX6_copyFrom_27 rfl rfl (Nat.le_of_ble_eq_true rfl)) rfl (fun _ h_8 => ?_)
  refine z_aload_n C 1 dX6_copyFrom_30 rfl ?_
  refine z_getR C qX6_22 dX6_copyFrom_31 (fun a_9 => ?_)
  refine z_aload_n C 0 dX6_copyFrom_34 rfl ?_
  refine z_getR C qX6_22 dX6_copyFrom_35 (fun a_10 => ?_)
  refine z_callv (z_runS (As := [.ref a_9, .ref a_10]) (rest := []) C mX6_97 (kX6_copyRow N h_8 a_9 a_10) (Nat.le_of_ble_eq_true rfl) ⟨Nat.zero_le _, Nat.zero_le _⟩ dX6_copyFrom_38 rfl rfl (Nat.le_of_ble_eq_true rfl)) rfl (fun _ h_11 => ?_)
  refine z_aload_n C 1 dX6_copyFrom_41 rfl ?_
  refine z_getR C qX6_25 dX6_copyFrom_42 (fun a_12 => ?_)
  refine z_aload_n C 0 dX6_copyFrom_45 rfl ?_
  refine z_getR C qX6_25 dX6_copyFrom_46 (fun a_13 => ?_)
  refine z_callv (z_runS (As := [.ref a_12, .ref a_13]) (rest := []) C mX6_97 (kX6_copyRow N h_11 a_12 a_13) (Nat.le_of_ble_eq_true rfl) ⟨Nat.zero_le _, Nat.zero_le _⟩ dX6_copyFrom_49 rfl rfl (Nat.le_of_ble_eq_true rfl)) rfl (fun _ h_14 => ?_)
  refine z_aload_n C 0 dX6_copyFrom_52 rfl ?_
  refine z_aload_n C 1 dX6_copyFrom_53 rfl ?_
  refine z_getI C qX6_28 dX6_copyFrom_54 (fun v_15 => ?_)
  refine z_putI C pX6_28 dX6_copyFrom_57 (fun h_16 => ?_)
  refine z_aload_n C 1 dX6_copyFrom_60 rfl ?_
  refine z_getR C qX6_31 dX6_copyFrom_61 (fun a_17 => ?_)
  refine z_aload_n C 0 dX6_copyFrom_64 rfl ?_
  refine z_getR C qX6_31 dX6_copyFrom_65 (fun a_18 => ?_)
  refine z_callv (z_runS (As := [.ref a_17, .ref a_18]) (rest := []) C mX6_97 (kX6_copyRow N h_16 a_17 a_18) (Nat.le_of_ble_eq_true rfl) ⟨Nat.zero_le _, Nat.zero_le _⟩ dX6_copyFrom_68 rfl rfl (Nat.le_of_ble_eq_true rfl)) rfl (fun _ h_19 => ?_)
  refine z_aload_n C 1 dX6_copyFrom_71 rfl ?_
  refine z_getR C qX6_34 dX6_copyFrom_72 (fun a_20 => ?_)
  refine z_aload_n C 0 dX6_copyFrom_75 rfl ?_
  refine z_getR C qX6_34 dX6_copyFrom_76 (fun a_21 => ?_)
  refine z_callv (z_runS (As := [.ref a_20, .ref a_21]) (rest := []) C mX6_97 (kX6_copyRow N h_19 a_20 a_21) (Nat.le_of_ble_eq_true rfl) ⟨Nat.zero_le _, Nat.zero_le _⟩ dX6_copyFrom_79 rfl rfl (Nat.le_of_ble_eq_true rfl)) rfl (fun _ h_22 => ?_)
  refine z_aload_n C 1 dX6_copyFrom_82 rfl ?_
  refine z_getR C qX6_37 dX6_copyFrom_83 (fun a_23 => ?_)
  refine z_aload_n C 0 dX6_copyFrom_86 rfl ?_
  refine z_getR C qX6_37 dX6_copyFrom_87 (fun a_24 => ?_)
  refine z_callv (z_runS (As := [.ref a_23, .ref a_24]) (rest := []) C mX6_97 (kX6_copyRow N h_22 a_23 a_24) (Nat.le_of_ble_eq_true rfl) ⟨Nat.zero_le _, Nat.zero_le _⟩ dX6_copyFrom_90 rfl rfl (Nat.le_of_ble_eq_true rfl)) rfl (fun _ h_25 => ?_)
  refine z_aload_n C 0 dX6_copyFrom_93 rfl ?_
  refine z_aload_n C 1 dX6_copyFrom_94 rfl ?_
  refine z_getI C qX6_40 dX6_copyFrom_95 (fun v_26 => ?_)
  refine z_putI C pX6_40 dX6_copyFrom_98 (fun h_27 => ?_)
  refine z_aload_n C 1 dX6_copyFrom_101 rfl ?_
  refine z_getR C qX6_43 dX6_copyFrom_102 (fun a_28 => ?_)
  refine z_aload_n C 0 dX6_copyFrom_105 rfl ?_
  refine z_getR C qX6_43 dX6_copyFrom_106 (fun a_29 => ?_)
  refine z_callv (z_runS (As := [.ref a_28, .ref a_29]) (rest := []) C mX6_97 (kX6_copyRow N h_27 a_28 a_29) (Nat.le_of_ble_eq_true rfl) ⟨Nat.zero_le _, Nat.zero_le _⟩ dX6_copyFrom_109 rfl rfl (Nat.le_of_ble_eq_true rfl)) rfl (fun _ h_30 => ?_)
  refine z_aload_n C 0 dX6_copyFrom_112 rfl ?_
  refine z_aload_n C 1 dX6_copyFrom_113 rfl ?_
  refine z_getI C qX6_46 dX6_copyFrom_114 (fun v_31 => ?_)
  refine z_putI C pX6_46 dX6_copyFrom_117 (fun h_32 => ?_)
  refine z_aload_n C 0 dX6_copyFrom_120 rfl ?_
  refine z_aload_n C 1 dX6_copyFrom_121 rfl ?_
  refine z_getI C qX6_49 dX6_copyFrom_122 (fun v_33 => ?_)
  refine z_putI C pX6_49 dX6_copyFrom_125 (fun h_34 => ?_)
  refine z_aload_n C 0 dX6_copyFrom_128 rfl ?_
  refine z_aload_n C 1 dX6_copyFrom_129 rfl ?_
  refine z_getI C qX6_52 dX6_copyFrom_130 (fun v_35 => ?_)
  refine z_putI C pX6_52 dX6_copyFrom_133 (fun h_36 => ?_)
  refine z_aload_n C 0 dX6_copyFrom_136 rfl ?_
  refine z_aload_n C 1 dX6_copyFrom_137 rfl ?_
  refine z_getI C qX6_55 dX6_copyFrom_138 (fun v_37 => ?_)
  refine z_putI C pX6_55 dX6_copyFrom_141 (fun h_38 => ?_)
  refine z_aload_n C 1 dX6_copyFrom_144 rfl ?_
  refine z_getR C qX6_60 dX6_copyFrom_145 (fun a_39 => ?_)
  refine z_aload_n C 0 dX6_copyFrom_148 rfl ?_
  refine z_getR C qX6_60 dX6_copyFrom_149 (fun a_40 => ?_)
  refine z_callv (z_runS (As := [.ref a_39, .ref a_40]) (rest := []) C mX6_101 (kX6_copyTable N h_38 a_39 a_40) (Nat.le_of_ble_eq_true rfl) ⟨Nat.zero_le _, Nat.zero_le _⟩ dX6_copyFrom_152 rfl rfl (Nat.le_of_ble_eq_true rfl)) rfl (fun _ h_41 => ?_)
  refine z_aload_n C 0 dX6_copyFrom_155 rfl ?_
  refine z_aload_n C 1 dX6_copyFrom_156 rfl ?_
  refine z_getI C qX6_63 dX6_copyFrom_157 (fun v_42 => ?_)
  refine z_putI C pX6_63 dX6_copyFrom_160 (fun h_43 => ?_)
  refine z_aload_n C 1 dX6_copyFrom_163 rfl ?_
  refine z_getR C qX6_66 dX6_copyFrom_164 (fun a_44 => ?_)
  refine z_aload_n C 0 dX6_copyFrom_167 rfl ?_
  refine z_getR C qX6_66 dX6_copyFrom_168 (fun a_45 => ?_)
  refine z_callv (z_runS (As := [.ref a_44, .ref a_45]) (rest := []) C mX6_101 (kX6_copyTable N h_43 a_44 a_45) (Nat.le_of_ble_eq_true rfl) ⟨Nat.zero_le _, Nat.zero_le _⟩ dX6_copyFrom_171 rfl rfl (Nat.le_of_ble_eq_true rfl)) rfl (fun _ h_46 => ?_)
  refine z_aload_n C 0 dX6_copyFrom_174 rfl ?_
  refine z_aload_n C 1 dX6_copyFrom_175 rfl ?_
  refine z_getI C qX6_69 dX6_copyFrom_176 (fun v_47 => ?_)
  refine z_putI C pX6_69 dX6_copyFrom_179 (fun h_48 => ?_)
  refine z_aload_n C 1 dX6_copyFrom_182 rfl ?_
  refine z_getR C qX6_72 dX6_copyFrom_183 (fun a_49 => ?_)
  refine z_aload_n C 0 dX6_copyFrom_186 rfl ?_
  refine z_getR C qX6_72 dX6_copyFrom_187 (fun a_50 => ?_)
  refine z_callv (z_runS (As := [.ref a_49, .ref a_50]) (rest := []) C mX6_101 (kX6_copyTable N h_48 a_49 a_50) (Nat.le_of_ble_eq_true rfl) ⟨Nat.zero_le _, Nat.zero_le _⟩ dX6_copyFrom_190 rfl rfl (Nat.le_of_ble_eq_true rfl)) rfl (fun _ h_51 => ?_)
  exact z_return C ⟨rfl, rfl⟩ dX6_copyFrom_193
def bJ7_fill_d0a16_6 (N : Nat) (r6 : AH → Nat → Int64 → Int32 → Int32 → Option (Unit × AH)) (h : AH) (a0 : Nat) (x1 : Int64) (x3 : Int32) (x4 : Int32) : Option (Unit × AH) :=
  (if x4 ≤ x3 then
  some ((), h)
  else
  (zlast h a0 x3 x1).bind fun h_1 =>
  r6 h_1 a0 x1 (x3 + (1 : Int32)) x4)
theorem tJ7_fill_d0a16_6 {X : zX} {g : zG} (C : zC X g yJ7_fill_d0a16 cJ7_fill_d0a16 5 1 0 0 none) (N : Nat) (n : Nat) : ∀ (h : AH) (a0 : Nat) (x1 : Int64) (x3 : Int32) (x4 : Int32), ZZ X g 5 (0, 0, 0, 0) (fun _ : Unit => none) (zfix (fun _ _ _ _ _ => none) (bJ7_fill_d0a16_6 N) n h a0 x1 x3 x4) h 6 [(0, .ref a0), (1, .long x1), (3, .int x3), (4, .int x4)] [] := by
  induction n with
  | zero => intro h a0 x1 x3 x4; exact z_none
  | succ n hr6 =>
    intro h a0 x1 x3 x4
    show ZZ X g 5 (0, 0, 0, 0) _ (bJ7_fill_d0a16_6 N (zfix (fun _ _ _ _ _ => none) (bJ7_fill_d0a16_6 N) n) h a0 x1 x3 x4) h 6 _ _
    unfold bJ7_fill_d0a16_6
    refine z_iload_n C 2 dJ7_fill_d0a16_6 rfl ?_
    refine z_iload C 3 dJ7_fill_d0a16_7 rfl ?_
    refine z_icmpge C 22 dJ7_fill_d0a16_9 rfl ?_ ?_
    · exact z_return C ⟨rfl, rfl⟩ dJ7_fill_d0a16_22
    · refine z_aload_n C 0 dJ7_fill_d0a16_12 rfl ?_
      refine z_iload_n C 2 dJ7_fill_d0a16_13 rfl ?_
      refine z_lload_n C 1 dJ7_fill_d0a16_14 rfl ?_
      refine z_lastore C dJ7_fill_d0a16_15 (fun h_1 => ?_)
      refine z_iinc (v := x3 + (1 : Int32)) C 2 dJ7_fill_d0a16_16 [(3, .int (x3 + (1 : Int32))), (0, .ref a0), (1, .long x1), (4, .int x4)] rfl rfl (by decide) rfl ?_
      refine z_goto C 6 dJ7_fill_d0a16_19 rfl ?_
      exact z_lv _ [1, 2, 0, 3] rfl (hr6 _ a0 x1 (x3 + (1 : Int32)) x4)
def fJ7_fill_d0a16 (N : Nat) (h : AH) (a0 : Nat) (x1 : Int64) : Option (Unit × AH) :=
  (zlen h a0).bind fun v_1 =>
  zfix (fun _ _ _ _ _ => none) (bJ7_fill_d0a16_6 N) N h a0 x1 (0 : Int32) v_1
theorem kJ7_fill_d0a16 {l : Launch} {g : zG} (N : Nat) (h : AH) (a0 : Nat) (x1 : Int64) : zM l g yJ7_fill_d0a16 cJ7_fill_d0a16 5 none (1) 0 0 (fun _ : Unit => none) (fJ7_fill_d0a16 N h a0 x1) h [.ref a0, .long x1] := by
  refine zM.of (lv0 := [(0, .ref a0), (1, .long x1)]) (by decide) (Nat.le_of_ble_eq_true rfl) rfl (fun X hX C => ?_)
  subst hX
  unfold fJ7_fill_d0a16
  refine z_iconst (v := (0 : Int32)) C dJ7_fill_d0a16_0 rfl ?_
  refine z_istore_n C dJ7_fill_d0a16_1 [(3, .int (0 : Int32)), (0, .ref a0), (1, .long x1)] (by decide) rfl ?_
  refine z_aload_n C 1 dJ7_fill_d0a16_2 rfl ?_
  refine z_alen C dJ7_fill_d0a16_3 (fun v_1 => ?_)
  refine z_istore C dJ7_fill_d0a16_4 [(4, .int v_1), (3, .int (0 : Int32)), (0, .ref a0), (1, .long x1)] (by decide) rfl ?_
  exact z_lv _ [2, 3, 1, 0] rfl (tJ7_fill_d0a16_6 C N N _ a0 x1 (0 : Int32) v_1)
def fX8_become (N : Nat) (h : AH) (a0 : Nat) (x1 : Int32) (x2 : Int32) : Option (Unit × AH) :=
  (zput h a0 8 0 (.int x1)).bind fun h_1 =>
  (zput h_1 a0 8 1 (.int x2)).bind fun h_2 =>
  (zgR h_2 a0 8 2).bind fun a_3 =>
  zcall (fJ7_fill_d0a16 N h_2 a_3 (0 : Int64)) fun _ h_4 =>
  some ((), h_4)
theorem kX8_become {l : Launch} {g : zG} (N : Nat) (h : AH) (a0 : Nat) (x1 : Int32) (x2 : Int32) : zM l g yX8_become cX8_become 3 none (2) 0 0 (fun _ : Unit => none) (fX8_become N h a0 x1 x2) h [.ref a0, .int x1, .int x2] := by
  refine zM.of (lv0 := [(0, .ref a0), (1, .int x1), (2, .int x2)]) (by decide) (Nat.le_of_ble_eq_true rfl) rfl (fun X hX C => ?_)
  subst hX
  unfold fX8_become
  refine z_aload_n C 0 dX8_become_0 rfl ?_
  refine z_iload_n C 1 dX8_become_1 rfl ?_
  refine z_putI C pX8_11 dX8_become_2 (fun h_1 => ?_)
  refine z_aload_n C 0 dX8_become_5 rfl ?_
  refine z_iload_n C 2 dX8_become_6 rfl ?_
  refine z_putI C pX8_15 dX8_become_7 (fun h_2 => ?_)
  refine z_aload_n C 0 dX8_become_10 rfl ?_
  refine z_getR C qX8_18 dX8_become_11 (fun a_3 => ?_)
  refine z_lconst (v := (0 : Int64)) C dX8_become_14 rfl ?_
  refine z_callv (z_runS (As := [.ref a_3, .long (0 : Int64)]) (rest := []) C mX8_22 (kJ7_fill_d0a16 N h_2 a_3 (0 : Int64)) (Nat.le_of_ble_eq_true rfl) ⟨Nat.zero_le _, Nat.zero_le _⟩ dX8_become_15 rfl rfl (Nat.le_of_ble_eq_true rfl)) rfl (fun _ h_4 => ?_)
  exact z_return C ⟨rfl, rfl⟩ dX8_become_18
def fX8_holdsRow (N : Nat) (h : AH) (a0 : Nat) : Option (Int32 × AH) :=
  (zgI h a0 8 0).bind fun v_1 =>
  (if v_1 = (-1 : Int32) then
  zret .boolean (0 : Int32) h
  else
  zret .boolean (1 : Int32) h)
theorem kX8_holdsRow {l : Launch} {g : zG} (N : Nat) (h : AH) (a0 : Nat) : zM l g yX8_holdsRow cX8_holdsRow 1 (some .boolean) (1) 0 0 (fun v : Int32 => some (.int v)) (fX8_holdsRow N h a0) h [.ref a0] := by
  refine zM.of (lv0 := [(0, .ref a0)]) (by decide) (Nat.le_of_ble_eq_true rfl) rfl (fun X hX C => ?_)
  subst hX
  unfold fX8_holdsRow
  refine z_aload_n C 0 dX8_holdsRow_0 rfl ?_
  refine z_getI C qX8_11 dX8_holdsRow_1 (fun v_1 => ?_)
  refine z_iconst (v := (-1 : Int32)) C dX8_holdsRow_4 rfl ?_
  refine z_icmpeq C 12 dX8_holdsRow_5 rfl ?_ ?_
  · refine z_iconst (v := (0 : Int32)) C dX8_holdsRow_12 rfl ?_
    exact z_zreturn C ⟨rfl, rfl⟩ dX8_holdsRow_13
  · refine z_iconst (v := (1 : Int32)) C dX8_holdsRow_8 rfl ?_
    refine z_goto C 13 dX8_holdsRow_9 rfl ?_
    exact z_zreturn C ⟨rfl, rfl⟩ dX8_holdsRow_13
def fX8_hasPlace (N : Nat) (h : AH) (a0 : Nat) (x1 : Int64) : Option (Int32 × AH) :=
  (zis h a0 8).bind fun _ =>
  zcall (fX8_holdsRow N h a0) fun v_2 h_1 =>
  (if v_2 = (0) then
  zret .boolean (0 : Int32) h_1
  else
  (if (lg_cmp x1 (0 : Int64)) < (0) then
  zret .boolean (0 : Int32) h_1
  else
  (zgI h_1 a0 8 1).bind fun v_4 =>
  (if (0) ≤ (lg_cmp x1 (v_4.toInt64)) then
  zret .boolean (0 : Int32) h_1
  else
  zret .boolean (1 : Int32) h_1)))
theorem kX8_hasPlace {l : Launch} {g : zG} (N : Nat) (h : AH) (a0 : Nat) (x1 : Int64) : zM l g yX8_hasPlace cX8_hasPlace 3 (some .boolean) (2) 0 0 (fun v : Int32 => some (.int v)) (fX8_hasPlace N h a0 x1) h [.ref a0, .long x1] := by
  refine zM.of (lv0 := [(0, .ref a0), (1, .long x1)]) (by decide) (Nat.le_of_ble_eq_true rfl) rfl (fun X hX C => ?_)
  subst hX
  unfold fX8_hasPlace
  refine z_aload_n C 0 dX8_hasPlace_0 rfl ?_
  refine z_bind (fun _ q_3 => ?_)
  refine z_calli (z_runV (As := []) (rest := []) C mX8_28 (kX8_holdsRow N h a0) q_3 (Nat.le_of_ble_eq_true rfl) ⟨Nat.zero_le _, Nat.zero_le _⟩ dX8_hasPlace_1 rfl rfl (Nat.le_of_ble_eq_true rfl)) rfl (fun v_2 h_1 => ?_)
  refine z_ifeq C 27 dX8_hasPlace_4 rfl ?_ ?_
  · refine z_iconst (v := (0 : Int32)) C dX8_hasPlace_27 rfl ?_
    exact z_zreturn C ⟨rfl, rfl⟩ dX8_hasPlace_28
  · refine z_lload_n C 1 dX8_hasPlace_7 rfl ?_
    refine z_lconst (v := (0 : Int64)) C dX8_hasPlace_8 rfl ?_
    refine z_lcmp C dX8_hasPlace_9 ?_
    refine z_iflt C 27 dX8_hasPlace_10 rfl ?_ ?_
    · refine z_iconst (v := (0 : Int32)) C dX8_hasPlace_27 rfl ?_
      exact z_zreturn C ⟨rfl, rfl⟩ dX8_hasPlace_28
    · refine z_lload_n C 1 dX8_hasPlace_13 rfl ?_
      refine z_aload_n C 0 dX8_hasPlace_14 rfl ?_
      refine z_getI C qX8_15 dX8_hasPlace_15 (fun v_4 => ?_)
      refine z_i2l C dX8_hasPlace_18 ?_
      refine z_lcmp C dX8_hasPlace_19 ?_
      refine z_ifge C 27 dX8_hasPlace_20 rfl ?_ ?_
      · refine z_iconst (v := (0 : Int32)) C dX8_hasPlace_27 rfl ?_
        exact z_zreturn C ⟨rfl, rfl⟩ dX8_hasPlace_28
      · refine z_iconst (v := (1 : Int32)) C dX8_hasPlace_23 rfl ?_
        refine z_goto C 28 dX8_hasPlace_24 rfl ?_
        exact z_zreturn C ⟨rfl, rfl⟩ dX8_hasPlace_28
def fX8_hasStretch (N : Nat) (h : AH) (a0 : Nat) (x1 : Int32) (x2 : Int32) : Option (Int32 × AH) :=
  (if x1 < (0) then
  zret .boolean (0 : Int32) h
  else
  (if x2 < (0) then
  zret .boolean (0 : Int32) h
  else
  (zgI h a0 8 1).bind fun v_1 =>
  (if (0) < (lg_cmp ((x1.toInt64) + (x2.toInt64)) (v_1.toInt64)) then
  zret .boolean (0 : Int32) h
  else
  zret .boolean (1 : Int32) h)))
theorem kX8_hasStretch {l : Launch} {g : zG} (N : Nat) (h : AH) (a0 : Nat) (x1 : Int32) (x2 : Int32) : zM l g yX8_hasStretch cX8_hasStretch 3 (some .boolean) (1) 0 0 (fun v : Int32 => some (.int v)) (fX8_hasStretch N h a0 x1 x2) h [.ref a0, .int x1, .int x2] := by
  refine zM.of (lv0 := [(0, .ref a0), (1, .int x1), (2, .int x2)]) (by decide) (Nat.le_of_ble_eq_true rfl) rfl (fun X hX C => ?_)
  subst hX
  unfold fX8_hasStretch
  refine z_iload_n C 1 dX8_hasStretch_0 rfl ?_
  refine z_iflt C 26 dX8_hasStretch_1 rfl ?_ ?_
  · refine z_iconst (v := (0 : Int32)) C dX8_hasStretch_26 rfl ?_
    exact z_zreturn C ⟨rfl, rfl⟩ dX8_hasStretch_27
  · refine z_iload_n C 2 dX8_hasStretch_4 rfl ?_
    refine z_iflt C 26 dX8_hasStretch_5 rfl ?_ ?_
    · refine z_iconst (v := (0 : Int32)) C dX8_hasStretch_26 rfl ?_
      exact z_zreturn C ⟨rfl, rfl⟩ dX8_hasStretch_27
    · refine z_iload_n C 1 dX8_hasStretch_8 rfl ?_
      refine z_i2l C dX8_hasStretch_9 ?_
      refine z_iload_n C 2 dX8_hasStretch_10 rfl ?_
      refine z_i2l C dX8_hasStretch_11 ?_
      refine z_ladd C dX8_hasStretch_12 ?_
      refine z_aload_n C 0 dX8_hasStretch_13 rfl ?_
      refine z_getI C qX8_15 dX8_hasStretch_14 (fun v_1 => ?_)
      refine z_i2l C dX8_hasStretch_17 ?_
      refine z_lcmp C dX8_hasStretch_18 ?_
      refine z_ifgt C 26 dX8_hasStretch_19 rfl ?_ ?_
      · refine z_iconst (v := (0 : Int32)) C dX8_hasStretch_26 rfl ?_
        exact z_zreturn C ⟨rfl, rfl⟩ dX8_hasStretch_27
      · refine z_iconst (v := (1 : Int32)) C dX8_hasStretch_22 rfl ?_
        refine z_goto C 27 dX8_hasStretch_23 rfl ?_
        exact z_zreturn C ⟨rfl, rfl⟩ dX8_hasStretch_27
def fX8_narrowed (N : Nat) (h : AH) (a0 : Nat) (x1 : Int64) : Option (Int64 × AH) :=
  (zgI h a0 8 0).bind fun v_1 =>
  (if v_1 = (0 : Int32) then
  some (((x1.toInt32).toInt8.toInt32).toInt64, h)
  else if v_1 = (1 : Int32) then
  some (((x1.toInt32).toInt16.toInt32).toInt64, h)
  else if v_1 = (2 : Int32) then
  some ((x1.toInt32).toInt64, h)
  else if v_1 = (3 : Int32) then
  some (x1, h)
  else if v_1 = (4 : Int32) then
  (if (lg_cmp x1 (0 : Int64)) = (0) then
  some ((0 : Int64), h)
  else
  some ((1 : Int64), h))
  else 
  some (x1, h))
theorem kX8_narrowed {l : Launch} {g : zG} (N : Nat) (h : AH) (a0 : Nat) (x1 : Int64) : zM l g yX8_narrowed cX8_narrowed 3 (some .long) (1) 0 0 (fun v : Int64 => some (.long v)) (fX8_narrowed N h a0 x1) h [.ref a0, .long x1] := by
  refine zM.of (lv0 := [(0, .ref a0), (1, .long x1)]) (by decide) (Nat.le_of_ble_eq_true rfl) rfl (fun X hX C => ?_)
  subst hX
  unfold fX8_narrowed
  refine z_aload_n C 0 dX8_narrowed_0 rfl ?_
  refine z_getI C qX8_11 dX8_narrowed_1 (fun v_1 => ?_)
  refine z_ite (fun q_2 => ?_) (fun q_2 => ?_)
  · subst q_2
    refine z_table C 40 dX8_narrowed_4 (by decide) (by decide) rfl rfl ?_
    refine z_lload_n C 1 dX8_narrowed_40 rfl ?_
    refine z_l2i C dX8_narrowed_41 ?_
    refine z_i2b C dX8_narrowed_42 ?_
    refine z_i2l C dX8_narrowed_43 ?_
    exact z_lreturn C ⟨rfl, rfl⟩ dX8_narrowed_44
  refine z_ite (fun q_3 => ?_) (fun q_3 => ?_)
  · subst q_3
    refine z_table C 45 dX8_narrowed_4 (by decide) (by decide) rfl rfl ?_
    refine z_lload_n C 1 dX8_narrowed_45 rfl ?_
    refine z_l2i C dX8_narrowed_46 ?_
    refine z_i2s C dX8_narrowed_47 ?_
    refine z_i2l C dX8_narrowed_48 ?_
    exact z_lreturn C ⟨rfl, rfl⟩ dX8_narrowed_49
  refine z_ite (fun q_4 => ?_) (fun q_4 => ?_)
  · subst q_4
    refine z_table C 50 dX8_narrowed_4 (by decide) (by decide) rfl rfl ?_
    refine z_lload_n C 1 dX8_narrowed_50 rfl ?_
    refine z_l2i C dX8_narrowed_51 ?_
    refine z_i2l C dX8_narrowed_52 ?_
    exact z_lreturn C ⟨rfl, rfl⟩ dX8_narrowed_53
  refine z_ite (fun q_5 => ?_) (fun q_5 => ?_)
  · subst q_5
    refine z_table C 66 dX8_narrowed_4 (by decide) (by decide) rfl rfl ?_
    refine z_lload_n C 1 dX8_narrowed_66 rfl ?_
    exact z_lreturn C ⟨rfl, rfl⟩ dX8_narrowed_67
  refine z_ite (fun q_6 => ?_) (fun q_6 => ?_)
  · subst q_6
    refine z_table C 54 dX8_narrowed_4 (by decide) (by decide) rfl rfl ?_
    refine z_lload_n C 1 dX8_narrowed_54 rfl ?_
    refine z_lconst (v := (0 : Int64)) C dX8_narrowed_55 rfl ?_
    refine z_lcmp C dX8_narrowed_56 ?_
    refine z_ifeq C 64 dX8_narrowed_57 rfl ?_ ?_
    · refine z_lconst (v := (0 : Int64)) C dX8_narrowed_64 rfl ?_
      exact z_lreturn C ⟨rfl, rfl⟩ dX8_narrowed_65
    · refine z_lconst (v := (1 : Int64)) C dX8_narrowed_60 rfl ?_
      refine z_goto C 65 dX8_narrowed_61 rfl ?_
      exact z_lreturn C ⟨rfl, rfl⟩ dX8_narrowed_65
  refine z_tableO C 66 dX8_narrowed_4 (by have eq_2 := lv_neT (a := 0) q_2 rfl; have eq_3 := lv_neT (a := 1) q_3 rfl; have eq_4 := lv_neT (a := 2) q_4 rfl; have eq_5 := lv_neT (a := 3) q_5 rfl; have eq_6 := lv_neT (a := 4) q_6 rfl; omega) rfl ?_
  refine z_lload_n C 1 dX8_narrowed_66 rfl ?_
  exact z_lreturn C ⟨rfl, rfl⟩ dX8_narrowed_67
def fX9_firmness (N : Nat) (h : AH) (a0 : Nat) (x1 : Int32) (x2 : Int32) (x3 : Int32) (x4 : Int32) (x5 : Int32) : Option (Int32 × AH) :=
  (zkind h a0).bind fun _ =>
  zcall (fX1_firmness N h a0 x1 x2 x3 x4 x5) fun v_2 h_1 =>
  some (v_2 + x5, h_1)
theorem kX9_firmness {l : Launch} {g : zG} (N : Nat) (h : AH) (a0 : Nat) (x1 : Int32) (x2 : Int32) (x3 : Int32) (x4 : Int32) (x5 : Int32) : zM l g yX9_firmness cX9_firmness 6 (some .int) (3) 0 0 (fun v : Int32 => some (.int v)) (fX9_firmness N h a0 x1 x2 x3 x4 x5) h [.ref a0, .int x1, .int x2, .int x3, .int x4, .int x5] := by
  refine zM.of (lv0 := [(0, .ref a0), (1, .int x1), (2, .int x2), (3, .int x3), (4, .int x4), (5, .int x5)]) (by decide) (Nat.le_of_ble_eq_true rfl) rfl (fun X hX C => ?_)
  subst hX
  unfold fX9_firmness
  refine z_aload_n C 0 dX9_firmness_0 rfl ?_
  refine z_iload_n C 1 dX9_firmness_1 rfl ?_
  refine z_iload_n C 2 dX9_firmness_2 rfl ?_
  refine z_iload_n C 3 dX9_firmness_3 rfl ?_
  refine z_iload C 4 dX9_firmness_4 rfl ?_
  refine z_iload C 5 dX9_firmness_6 rfl ?_
  refine z_bind (fun _ q_3 => ?_)
  refine z_calli (z_runP (As := [.int x1, .int x2, .int x3, .int x4, .int x5]) (rest := []) C mX9_7 (kX1_firmness N h a0 x1 x2 x3 x4 x5) q_3 (Nat.le_of_ble_eq_true rfl) ⟨Nat.zero_le _, Nat.zero_le _⟩ dX9_firmness_8 rfl rfl (Nat.le_of_ble_eq_true rfl)) rfl (fun v_2 h_1 => ?_)
  refine z_iload C 5 dX9_firmness_11 rfl ?_
  refine z_iadd C dX9_firmness_13 ?_
  exact z_ireturn C ⟨rfl, rfl⟩ dX9_firmness_14
def fX10_clear (N : Nat) (h : AH) (a0 : Nat) : Option (Unit × AH) :=
  (zput h a0 10 2 (.int (0 : Int32))).bind fun h_1 =>
  some ((), h_1)
theorem kX10_clear {l : Launch} {g : zG} (N : Nat) (h : AH) (a0 : Nat) : zM l g yX10_clear cX10_clear 1 none (1) 0 0 (fun _ : Unit => none) (fX10_clear N h a0) h [.ref a0] := by
  refine zM.of (lv0 := [(0, .ref a0)]) (by decide) (Nat.le_of_ble_eq_true rfl) rfl (fun X hX C => ?_)
  subst hX
  unfold fX10_clear
  refine z_aload_n C 0 dX10_clear_0 rfl ?_
  refine z_iconst (v := (0 : Int32)) C dX10_clear_1 rfl ?_
  refine z_putI C pX10_16 dX10_clear_2 (fun h_1 => ?_)
  exact z_return C ⟨rfl, rfl⟩ dX10_clear_5
def fX10_keptCount (N : Nat) (h : AH) (a0 : Nat) : Option (Int32 × AH) :=
  (zgI h a0 10 2).bind fun v_1 =>
  some ((if (20 : Int32) < v_1 then (20 : Int32) else v_1), h)
theorem kX10_keptCount {l : Launch} {g : zG} (N : Nat) (h : AH) (a0 : Nat) : zM l g yX10_keptCount cX10_keptCount 1 (some .int) (1) 0 0 (fun v : Int32 => some (.int v)) (fX10_keptCount N h a0) h [.ref a0] := by
  refine zM.of (lv0 := [(0, .ref a0)]) (by decide) (Nat.le_of_ble_eq_true rfl) rfl (fun X hX C => ?_)
  subst hX
  unfold fX10_keptCount
  refine z_aload_n C 0 dX10_keptCount_0 rfl ?_
  refine z_getI C qX10_16 dX10_keptCount_1 (fun v_1 => ?_)
  refine z_bipush (v := (20 : Int32)) C dX10_keptCount_4 rfl ?_
  refine z_mmin C mX10_23 dX10_keptCount_6 (Nat.le_of_ble_eq_true rfl) (by omega) ⟨Nat.zero_le _, Nat.zero_le _⟩ ?_
  exact z_ireturn C ⟨rfl, rfl⟩ dX10_keptCount_9
