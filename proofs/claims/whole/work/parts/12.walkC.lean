def fX11_master (N : Nat) (h : AH) (a0 : Nat) (x1 : Int32) (x2 : Int32) : Option (Int32 × AH) :=
  (if x1 < (0) then
  some ((-1 : Int32), h)
  else
  (if x1 < (7 : Int32) then
  (if x2 < (0) then
  some ((-2 : Int32), h)
  else
  (if x2 ≤ (9 : Int32) then
  (zgR h a0 11 0).bind fun a_1 =>
  (zis h a_1 6).bind fun _ =>
  zcall (fX6_addMaster N h a_1 x1 x2) fun v_3 h_2 =>
  some (v_3, h_2)
  else
  some ((-2 : Int32), h)))
  else
  some ((-1 : Int32), h)))
theorem kX11_master {l : Launch} {g : zG} (N : Nat) (h : AH) (a0 : Nat) (x1 : Int32) (x2 : Int32) : zM l g yX11_master cX11_master 3 (some .int) (2) 0 0 (fun v : Int32 => some (.int v)) (fX11_master N h a0 x1 x2) h [.ref a0, .int x1, .int x2] := by
  refine zM.of (lv0 := [(0, .ref a0), (1, .int x1), (2, .int x2)]) (by decide) (Nat.le_of_ble_eq_true rfl) rfl (fun X hX C => ?_)
  subst hX
  unfold fX11_master
  refine z_iload_n C 1 dX11_master_0 rfl ?_
  refine z_iflt C 10 dX11_master_1 rfl ?_ ?_
  · refine z_iconst (v := (-1 : Int32)) C dX11_master_10 rfl ?_
    exact z_ireturn C ⟨rfl, rfl⟩ dX11_master_11
  · refine z_iload_n C 1 dX11_master_4 rfl ?_
    refine z_bipush (v := (7 : Int32)) C dX11_master_5 rfl ?_
    refine z_icmplt C 12 dX11_master_7 rfl ?_ ?_
    · refine z_iload_n C 2 dX11_master_12 rfl ?_
      refine z_iflt C 22 dX11_master_13 rfl ?_ ?_
      · refine z_bipush (v := (-2 : Int32)) C dX11_master_22 rfl ?_
        exact z_ireturn C ⟨rfl, rfl⟩ dX11_master_24
      · refine z_iload_n C 2 dX11_master_16 rfl ?_
        refine z_bipush (v := (9 : Int32)) C dX11_master_17 rfl ?_
        refine z_icmple C 25 dX11_master_19 rfl ?_ ?_
        · refine z_aload_n C 0 dX11_master_25 rfl ?_
          refine z_getR C qX11_12 dX11_master_26 (fun a_1 => ?_)
          refine z_iload_n C 1 dX11_master_29 rfl ?_
          refine z_iload_n C 2 dX11_master_30 rfl ?_
          refine z_bind (fun _ q_4 => ?_)
          refine z_calli (z_runV (As := [.int x1, .int x2]) (rest := []) C mX11_93 (kX6_addMaster N h a_1 x1 x2) q_4 (Nat.le_of_ble_eq_true rfl) ⟨Nat.zero_le _, Nat.zero_le _⟩ dX11_master_31 rfl rfl (Nat.le_of_ble_eq_true rfl)) rfl (fun v_3 h_2 => ?_)
          exact z_ireturn C ⟨rfl, rfl⟩ dX11_master_34
        · refine z_bipush (v := (-2 : Int32)) C dX11_master_22 rfl ?_
          exact z_ireturn C ⟨rfl, rfl⟩ dX11_master_24
    · refine z_iconst (v := (-1 : Int32)) C dX11_master_10 rfl ?_
      exact z_ireturn C ⟨rfl, rfl⟩ dX11_master_11
def fX11_holding (N : Nat) (h : AH) (a0 : Nat) : Option (Nat × AH) :=
  (zgR h a0 11 0).bind fun a_1 =>
  (zgI h a_1 6 13).bind fun v_2 =>
  (if v_2 < (0) then
  (zgR h a0 11 4).bind fun a_3 =>
  some (a_3, h)
  else
  (zgI h a0 11 6).bind fun v_4 =>
  (if v_4 ≤ v_2 then
  (zgR h a0 11 4).bind fun a_5 =>
  some (a_5, h)
  else
  (zgR h a0 11 5).bind fun a_6 =>
  (zaald 4 h a_6 v_2).bind fun a_7 =>
  some (a_7, h)))
theorem kX11_holding {l : Launch} {g : zG} (N : Nat) (h : AH) (a0 : Nat) : zM l g yX11_holding cX11_holding 2 (some (.object "ButlerRemembers$House")) (1) 0 0 (fun v : Nat => some (.ref v)) (fX11_holding N h a0) h [.ref a0] := by
  refine zM.of (lv0 := [(0, .ref a0)]) (by decide) (Nat.le_of_ble_eq_true rfl) rfl (fun X hX C => ?_)
  subst hX
  unfold fX11_holding
  refine z_aload_n C 0 dX11_holding_0 rfl ?_
  refine z_getR C qX11_12 dX11_holding_1 (fun a_1 => ?_)
  refine z_getI C qX11_164 dX11_holding_4 (fun v_2 => ?_)
  refine z_istore_n C dX11_holding_7 [(1, .int v_2), (0, .ref a0)] (by decide) rfl ?_
  refine z_iload_n C 0 dX11_holding_8 rfl ?_
  refine z_iflt C 29 dX11_holding_9 rfl ?_ ?_
  · refine z_aload_n C 1 dX11_holding_29 rfl ?_
    refine z_getR C qX11_53 dX11_holding_30 (fun a_3 => ?_)
    exact z_areturn C (Or.inl ⟨_, rfl⟩) ⟨rfl, rfl⟩ dX11_holding_33
  · refine z_iload_n C 0 dX11_holding_12 rfl ?_
    refine z_aload_n C 1 dX11_holding_13 rfl ?_
    refine z_getI C qX11_61 dX11_holding_14 (fun v_4 => ?_)
    refine z_icmpge C 29 dX11_holding_17 rfl ?_ ?_
    · refine z_aload_n C 1 dX11_holding_29 rfl ?_
      refine z_getR C qX11_53 dX11_holding_30 (fun a_5 => ?_)
      exact z_areturn C (Or.inl ⟨_, rfl⟩) ⟨rfl, rfl⟩ dX11_holding_33
    · refine z_aload_n C 1 dX11_holding_20 rfl ?_
      refine z_getR C qX11_57 dX11_holding_21 (fun a_6 => ?_)
      refine z_iload_n C 0 dX11_holding_24 rfl ?_
      refine z_aaload C (by decide) dX11_holding_25 (fun a_7 => ?_)
      refine z_goto C 33 dX11_holding_26 rfl ?_
      exact z_areturn C (Or.inl ⟨_, rfl⟩) ⟨rfl, rfl⟩ dX11_holding_33
def fX11_mannersOf (N : Nat) (h : AH) (a0 : Nat) (x1 : Int32) : Option (Nat × AH) :=
  (zgR h a0 11 0).bind fun a_1 =>
  (zgR h a_1 6 1).bind fun a_2 =>
  (zald 0 h a_2 x1).bind fun v_3 =>
  (if v_3 < (0) then
  (zgR h a0 11 3).bind fun a_4 =>
  (zaald 5 h a_4 (0 : Int32)).bind fun a_5 =>
  some (a_5, h)
  else
  (if (7 : Int32) ≤ v_3 then
  (zgR h a0 11 3).bind fun a_6 =>
  (zaald 5 h a_6 (0 : Int32)).bind fun a_7 =>
  some (a_7, h)
  else
  (zgR h a0 11 3).bind fun a_8 =>
  (zaald 5 h a_8 v_3).bind fun a_9 =>
  some (a_9, h)))
theorem kX11_mannersOf {l : Launch} {g : zG} (N : Nat) (h : AH) (a0 : Nat) (x1 : Int32) : zM l g yX11_mannersOf cX11_mannersOf 3 (some (.object "ButlerRemembers$Master")) (1) 0 0 (fun v : Nat => some (.ref v)) (fX11_mannersOf N h a0 x1) h [.ref a0, .int x1] := by
  refine zM.of (lv0 := [(0, .ref a0), (1, .int x1)]) (by decide) (Nat.le_of_ble_eq_true rfl) rfl (fun X hX C => ?_)
  subst hX
  unfold fX11_mannersOf
  refine z_aload_n C 0 dX11_mannersOf_0 rfl ?_
  refine z_getR C qX11_12 dX11_mannersOf_1 (fun a_1 => ?_)
  refine z_getR C qX11_104 dX11_mannersOf_4 (fun a_2 => ?_)
  refine z_iload_n C 1 dX11_mannersOf_7 rfl ?_
  refine z_iaload C dX11_mannersOf_8 (fun v_3 => ?_)
  refine z_istore_n C dX11_mannersOf_9 [(2, .int v_3), (0, .ref a0), (1, .int x1)] (by decide) rfl ?_
  refine z_iload_n C 0 dX11_mannersOf_10 rfl ?_
  refine z_iflt C 29 dX11_mannersOf_11 rfl ?_ ?_
  · refine z_aload_n C 1 dX11_mannersOf_29 rfl ?_
    refine z_getR C qX11_46 dX11_mannersOf_30 (fun a_4 => ?_)
    refine z_iconst (v := (0 : Int32)) C dX11_mannersOf_33 rfl ?_
    refine z_aaload C (by decide) dX11_mannersOf_34 (fun a_5 => ?_)
    exact z_areturn C (Or.inl ⟨_, rfl⟩) ⟨rfl, rfl⟩ dX11_mannersOf_35
  · refine z_iload_n C 0 dX11_mannersOf_14 rfl ?_
    refine z_bipush (v := (7 : Int32)) C dX11_mannersOf_15 rfl ?_
    refine z_icmpge C 29 dX11_mannersOf_17 rfl ?_ ?_
    · refine z_aload_n C 1 dX11_mannersOf_29 rfl ?_
      refine z_getR C qX11_46 dX11_mannersOf_30 (fun a_6 => ?_)
      refine z_iconst (v := (0 : Int32)) C dX11_mannersOf_33 rfl ?_
      refine z_aaload C (by decide) dX11_mannersOf_34 (fun a_7 => ?_)
      exact z_areturn C (Or.inl ⟨_, rfl⟩) ⟨rfl, rfl⟩ dX11_mannersOf_35
    · refine z_aload_n C 1 dX11_mannersOf_20 rfl ?_
      refine z_getR C qX11_46 dX11_mannersOf_21 (fun a_8 => ?_)
      refine z_iload_n C 0 dX11_mannersOf_24 rfl ?_
      refine z_aaload C (by decide) dX11_mannersOf_25 (fun a_9 => ?_)
      refine z_goto C 35 dX11_mannersOf_26 rfl ?_
      exact z_areturn C (Or.inl ⟨_, rfl⟩) ⟨rfl, rfl⟩ dX11_mannersOf_35
def fX11_weighedGrip (N : Nat) (h : AH) (a0 : Nat) (x1 : Int32) (x2 : Int32) (x3 : Int32) (x4 : Int32) : Option (Int32 × AH) :=
  (zgR h a0 11 0).bind fun a_1 =>
  (zgR h a_1 6 4).bind fun a_2 =>
  (zald 0 h a_2 ((x1 * (4 : Int32)) + (x3 - x3 / (4 : Int32) * (4 : Int32)))).bind fun v_3 =>
  (zis h a0 11).bind fun _ =>
  zcall (fX11_mannersOf N h a0 x1) fun a_5 h_4 =>
  (zgR h_4 a0 11 11).bind fun a_7 =>
  (zald 0 h_4 a_7 x4).bind fun v_8 =>
  zcall ((zkind h_4 a_5).bind fun k_11 => if k_11 = 0 then fX0_firmness N h_4 a_5 v_8 x4 x3 x2 v_3 else if k_11 = 1 then fX1_firmness N h_4 a_5 v_8 x4 x3 x2 v_3 else if k_11 = 2 then fX2_firmness N h_4 a_5 v_8 x4 x3 x2 v_3 else if k_11 = 3 then fX3_firmness N h_4 a_5 v_8 x4 x3 x2 v_3 else if k_11 = 4 then fX4_firmness N h_4 a_5 v_8 x4 x3 x2 v_3 else if k_11 = 7 then fX7_firmness N h_4 a_5 v_8 x4 x3 x2 v_3 else if k_11 = 9 then fX9_firmness N h_4 a_5 v_8 x4 x3 x2 v_3 else none) fun v_10 h_9 =>
  some (v_10, h_9)
theorem kX11_weighedGrip {l : Launch} {g : zG} (N : Nat) (h : AH) (a0 : Nat) (x1 : Int32) (x2 : Int32) (x3 : Int32) (x4 : Int32) : zM l g yX11_weighedGrip cX11_weighedGrip 6 (some .int) (4) 0 0 (fun v : Int32 => some (.int v)) (fX11_weighedGrip N h a0 x1 x2 x3 x4) h [.ref a0, .int x1, .int x2, .int x3, .int x4] := by
  refine zM.of (lv0 := [(0, .ref a0), (1, .int x1), (2, .int x2), (3, .int x3), (4, .int x4)]) (by decide) (Nat.le_of_ble_eq_true rfl) rfl (fun X hX C => ?_)
  subst hX
  unfold fX11_weighedGrip
  refine z_aload_n C 0 dX11_weighedGrip_0 rfl ?_
  refine z_getR C qX11_12 dX11_weighedGrip_1 (fun a_1 => ?_)
  refine z_getR C qX11_157 dX11_weighedGrip_4 (fun a_2 => ?_)
  refine z_iload_n C 1 dX11_weighedGrip_7 rfl ?_
  refine z_iconst (v := (4 : Int32)) C dX11_weighedGrip_8 rfl ?_
  refine z_imul C dX11_weighedGrip_9 ?_
  refine z_iload_n C 3 dX11_weighedGrip_10 rfl ?_
  refine z_iconst (v := (4 : Int32)) C dX11_weighedGrip_11 rfl ?_
  refine z_irem C dX11_weighedGrip_12 (by decide) ?_
  refine z_iadd C dX11_weighedGrip_13 ?_
  refine z_iaload C dX11_weighedGrip_14 (fun v_3 => ?_)
  refine z_istore C dX11_weighedGrip_15 [(5, .int v_3), (0, .ref a0), (1, .int x1), (2, .int x2), (3, .int x3), (4, .int x4)] (by decide) rfl ?_
  refine z_aload_n C 1 dX11_weighedGrip_17 rfl ?_
  refine z_iload_n C 2 dX11_weighedGrip_18 rfl ?_
  refine z_bind (fun _ q_6 => ?_)
  refine z_callr (z_runV (As := [.int x1]) (rest := []) C mX11_295 (kX11_mannersOf N h a0 x1) q_6 (Nat.le_of_ble_eq_true rfl) ⟨Nat.zero_le _, Nat.zero_le _⟩ dX11_weighedGrip_19 rfl rfl (Nat.le_of_ble_eq_true rfl)) rfl (fun a_5 h_4 => ?_)
  refine z_aload_n C 1 dX11_weighedGrip_22 rfl ?_
  refine z_getR C qX11_85 dX11_weighedGrip_23 (fun a_7 => ?_)
  refine z_iload C 5 dX11_weighedGrip_26 rfl ?_
  refine z_iaload C dX11_weighedGrip_28 (fun v_8 => ?_)
  refine z_iload C 5 dX11_weighedGrip_29 rfl ?_
  refine z_iload_n C 4 dX11_weighedGrip_31 rfl ?_
  refine z_iload_n C 3 dX11_weighedGrip_32 rfl ?_
  refine z_iload C 0 dX11_weighedGrip_33 rfl ?_
  refine z_calli (zRun_bind (fun k_11 q_12 => zRun_ite (fun q0 => z_runU (As := [.int v_8, .int x4, .int x3, .int x2, .int v_3]) (rest := []) C mX11_342_0 (kX0_firmness N h_4 a_5 v_8 x4 x3 x2 v_3) (zis_of_kind (q0 ▸ q_12)) (Nat.le_of_ble_eq_true rfl) ⟨Nat.zero_le _, Nat.zero_le _⟩ dX11_weighedGrip_35 rfl rfl (Nat.le_of_ble_eq_true rfl)) (fun _ => zRun_ite (fun q0 => z_runU (As := [.int v_8, .int x4, .int x3, .int x2, .int v_3]) (rest := []) C mX11_342_1 (kX1_firmness N h_4 a_5 v_8 x4 x3 x2 v_3) (zis_of_kind (q0 ▸ q_12)) (Nat.le_of_ble_eq_true rfl) ⟨Nat.zero_le _, Nat.zero_le _⟩ dX11_weighedGrip_35 rfl rfl (Nat.le_of_ble_eq_true rfl)) (fun _ => zRun_ite (fun q0 => z_runU (As := [.int v_8, .int x4, .int x3, .int x2, .int v_3]) (rest := []) C mX11_342_2 (kX2_firmness N h_4 a_5 v_8 x4 x3 x2 v_3) (zis_of_kind (q0 ▸ q_12)) (Nat.le_of_ble_eq_true rfl) ⟨Nat.zero_le _, Nat.zero_le _⟩ dX11_weighedGrip_35 rfl rfl (Nat.le_of_ble_eq_true rfl)) (fun _ => zRun_ite (fun q0 => z_runU (As := [.int v_8, .int x4, .int x3, .int x2, .int v_3]) (rest := []) C mX11_342_3 (kX3_firmness N h_4 a_5 v_8 x4 x3 x2 v_3) (zis_of_kind (q0 ▸ q_12)) (Nat.le_of_ble_eq_true rfl) ⟨Nat.zero_le _, Nat.zero_le _⟩ dX11_weighedGrip_35 rfl rfl (Nat.le_of_ble_eq_true rfl)) (fun _ => zRun_ite (fun q0 => z_runU (As := [.int v_8, .int x4, .int x3, .int x2, .int v_3]) (rest := []) C mX11_342_4 (kX4_firmness N h_4 a_5 v_8 x4 x3 x2 v_3) (zis_of_kind (q0 ▸ q_12)) (Nat.le_of_ble_eq_true rfl) ⟨Nat.zero_le _, Nat.zero_le _⟩ dX11_weighedGrip_35 rfl rfl (Nat.le_of_ble_eq_true rfl)) (fun _ => zRun_ite (fun q0 => z_runV (As := [.int v_8, .int x4, .int x3, .int x2, .int v_3]) (rest := []) C mX11_342_7 (kX7_firmness N h_4 a_5 v_8 x4 x3 x2 v_3) (zis_of_kind (q0 ▸ q_12)) (Nat.le_of_ble_eq_true rfl) ⟨Nat.zero_le _, Nat.zero_le _⟩ dX11_weighedGrip_35 rfl rfl (Nat.le_of_ble_eq_true rfl)) (fun _ => zRun_ite (fun q0 => z_runU (As := [.int v_8, .int x4, .int x3, .int x2, .int v_3]) (rest := []) C mX11_342_9 (kX9_firmness N h_4 a_5 v_8 x4 x3 x2 v_3) (zis_of_kind (q0 ▸ q_12)) (Nat.le_of_ble_eq_true rfl) ⟨Nat.zero_le _, Nat.zero_le _⟩ dX11_weighedGrip_35 rfl rfl (Nat.le_of_ble_eq_true rfl)) (fun _ => zRun_none))))))))) rfl (fun v_10 h_9 => ?_)
  exact z_ireturn C ⟨rfl, rfl⟩ dX11_weighedGrip_38
def bX11_keptInNight_47 (N : Nat) (r47 : AH → Nat → Int32 → Int32 → Int32 → Int32 → Int32 → Int32 → Option (Int32 × AH)) (h : AH) (a0 : Nat) (x1 : Int32) (x2 : Int32) (x3 : Int32) (x4 : Int32) (x5 : Int32) (x6 : Int32) : Option (Int32 × AH) :=
  (if (8 : Int32) ≤ x6 then
  some (x5, h)
  else
  znm ((1 : Int32) <<< (x6 &&& 31)) fun y_1 =>
  (if (x4 &&& y_1) = (0) then
  r47 h a0 x1 x2 x3 x4 x5 (x6 + (1 : Int32))
  else
  (zis h a0 11).bind fun _ =>
  zcall (fX11_weighedGrip N h a0 x1 x2 x3 x6) fun v_3 h_2 =>
  (if v_3 ≤ (0) then
  r47 h_2 a0 x1 x2 x3 x4 x5 (x6 + (1 : Int32))
  else
  znm (x5 ||| y_1) fun y_5 =>
  r47 h_2 a0 x1 x2 x3 x4 y_5 (x6 + (1 : Int32)))))
theorem tX11_keptInNight_47 {X : zX} {g : zG} (C : zC X g yX11_keptInNight cX11_keptInNight 8 5 0 0 (some .int)) (N : Nat) (n : Nat) : ∀ (h : AH) (a0 : Nat) (x1 : Int32) (x2 : Int32) (x3 : Int32) (x4 : Int32) (x5 : Int32) (x6 : Int32), ZZ X g 8 (0, 0, 0, 0) (fun v : Int32 => some (.int v)) (zfix (fun _ _ _ _ _ _ _ _ => none) (bX11_keptInNight_47 N) n h a0 x1 x2 x3 x4 x5 x6) h 47 [(0, .ref a0), (1, .int x1), (2, .int x2), (3, .int x3), (4, .int x4), (5, .int x5), (6, .int x6)] [] := by
  induction n with
  | zero => intro h a0 x1 x2 x3 x4 x5 x6; exact z_none
  | succ n hr47 =>
    intro h a0 x1 x2 x3 x4 x5 x6
    show ZZ X g 8 (0, 0, 0, 0) _ (bX11_keptInNight_47 N (zfix (fun _ _ _ _ _ _ _ _ => none) (bX11_keptInNight_47 N) n) h a0 x1 x2 x3 x4 x5 x6) h 47 _ _
    unfold bX11_keptInNight_47
    refine z_iload C 6 dX11_keptInNight_47 rfl ?_
    refine z_bipush (v := (8 : Int32)) C dX11_keptInNight_49 rfl ?_
    refine z_icmpge C 93 dX11_keptInNight_51 rfl ?_ ?_
    · refine z_iload C 5 dX11_keptInNight_93 rfl ?_
      exact z_ireturn C ⟨rfl, rfl⟩ dX11_keptInNight_95
    · refine z_iconst (v := (1 : Int32)) C dX11_keptInNight_54 rfl ?_
      refine z_iload C 6 dX11_keptInNight_55 rfl ?_
      refine z_ishl C dX11_keptInNight_57 ?_
      refine z_nmI (fun y_1 => ?_)
      refine z_istore C dX11_keptInNight_58 [(7, .int y_1), (0, .ref a0), (1, .int x1), (2, .int x2), (3, .int x3), (4, .int x4), (5, .int x5), (6, .int x6)] (by decide) rfl ?_
      refine z_iload C 5 dX11_keptInNight_60 rfl ?_
      refine z_iload C 0 dX11_keptInNight_62 rfl ?_
      refine z_iand C dX11_keptInNight_64 ?_
      refine z_ifeq C 87 dX11_keptInNight_65 rfl ?_ ?_
      · refine z_iinc (v := x6 + (1 : Int32)) C 7 dX11_keptInNight_87 [(6, .int (x6 + (1 : Int32))), (7, .int y_1), (0, .ref a0), (1, .int x1), (2, .int x2), (3, .int x3), (4, .int x4), (5, .int x5)] rfl rfl (by decide) rfl ?_
        refine z_goto C 47 dX11_keptInNight_90 rfl ?_
        exact z_lv _ [2, 3, 4, 5, 6, 7, 0] rfl (hr47 _ a0 x1 x2 x3 x4 x5 (x6 + (1 : Int32)))
      · refine z_aload_n C 1 dX11_keptInNight_68 rfl ?_
        refine z_iload_n C 2 dX11_keptInNight_69 rfl ?_
        refine z_iload_n C 3 dX11_keptInNight_70 rfl ?_
        refine z_iload_n C 4 dX11_keptInNight_71 rfl ?_
        refine z_iload C 7 dX11_keptInNight_72 rfl ?_
        refine z_bind (fun _ q_4 => ?_)
        refine z_calli (z_runV (As := [.int x1, .int x2, .int x3, .int x6]) (rest := []) C mX11_131 (kX11_weighedGrip N h a0 x1 x2 x3 x6) q_4 (Nat.le_of_ble_eq_true rfl) ⟨Nat.zero_le _, Nat.zero_le _⟩ dX11_keptInNight_74 rfl rfl (Nat.le_of_ble_eq_true rfl)) rfl (fun v_3 h_2 => ?_)
        refine z_ifle C 87 dX11_keptInNight_77 rfl ?_ ?_
        · refine z_iinc (v := x6 + (1 : Int32)) C 7 dX11_keptInNight_87 [(6, .int (x6 + (1 : Int32))), (7, .int y_1), (0, .ref a0), (1, .int x1), (2, .int x2), (3, .int x3), (4, .int x4), (5, .int x5)] rfl rfl (by decide) rfl ?_
          refine z_goto C 47 dX11_keptInNight_90 rfl ?_
          exact z_lv _ [2, 3, 4, 5, 6, 7, 0] rfl (hr47 _ a0 x1 x2 x3 x4 x5 (x6 + (1 : Int32)))
        · refine z_iload C 6 dX11_keptInNight_80 rfl ?_
          refine z_iload C 0 dX11_keptInNight_82 rfl ?_
          refine z_ior C dX11_keptInNight_84 ?_
          refine z_nmI (fun y_5 => ?_)
          refine z_istore C dX11_keptInNight_85 [(5, .int y_5), (7, .int y_1), (0, .ref a0), (1, .int x1), (2, .int x2), (3, .int x3), (4, .int x4), (6, .int x6)] (by decide) rfl ?_
          refine z_iinc (v := x6 + (1 : Int32)) C 7 dX11_keptInNight_87 [(6, .int (x6 + (1 : Int32))), (5, .int y_5), (7, .int y_1), (0, .ref a0), (1, .int x1), (2, .int x2), (3, .int x3), (4, .int x4)] rfl rfl (by decide) rfl ?_
          refine z_goto C 47 dX11_keptInNight_90 rfl ?_
          exact z_lv _ [3, 4, 5, 6, 7, 1, 0] rfl (hr47 _ a0 x1 x2 x3 x4 y_5 (x6 + (1 : Int32)))
def fX11_keptInNight (N : Nat) (h : AH) (a0 : Nat) (x1 : Int32) (x2 : Int32) (x3 : Int32) (x4 : Int32) : Option (Int32 × AH) :=
  (if x4 = (0) then
  some ((0 : Int32), h)
  else
  (zgR h a0 11 0).bind fun a_1 =>
  (zis h a_1 6).bind fun _ =>
  zcall (fX6_hasMaster N h a_1 x1) fun v_3 h_2 =>
  (if v_3 = (0) then
  some ((0 : Int32), h_2)
  else
  (zis h_2 a0 11).bind fun _ =>
  zcall (fX11_holding N h_2 a0) fun a_6 h_5 =>
  (zgR h_5 a0 11 0).bind fun a_8 =>
  (zgR h_5 a_8 6 1).bind fun a_9 =>
  (zald 0 h_5 a_9 x1).bind fun v_10 =>
  (zgR h_5 a0 11 11).bind fun a_11 =>
  (zis h_5 a_6 5).bind fun _ =>
  zcall (fX5_weigh N h_5 a_6 x1 v_10 x2 x3 a_11) fun _ h_12 =>
  zfix (fun _ _ _ _ _ _ _ _ => none) (bX11_keptInNight_47 N) N h_12 a0 x1 x2 x3 x4 (0 : Int32) (0 : Int32)))
theorem kX11_keptInNight {l : Launch} {g : zG} (N : Nat) (h : AH) (a0 : Nat) (x1 : Int32) (x2 : Int32) (x3 : Int32) (x4 : Int32) : zM l g yX11_keptInNight cX11_keptInNight 8 (some .int) (5) 0 0 (fun v : Int32 => some (.int v)) (fX11_keptInNight N h a0 x1 x2 x3 x4) h [.ref a0, .int x1, .int x2, .int x3, .int x4] := by
  refine zM.of (lv0 := [(0, .ref a0), (1, .int x1), (2, .int x2), (3, .int x3), (4, .int x4)]) (by decide) (Nat.le_of_ble_eq_true rfl) rfl (fun X hX C => ?_)
  subst hX
  unfold fX11_keptInNight
  refine z_iload C 4 dX11_keptInNight_0 rfl ?_
  refine z_ifeq C 16 dX11_keptInNight_2 rfl ?_ ?_
  · refine z_iconst (v := (0 : Int32)) C dX11_keptInNight_16 rfl ?_
    exact z_ireturn C ⟨rfl, rfl⟩ dX11_keptInNight_17
  · refine z_aload_n C 0 dX11_keptInNight_5 rfl ?_
    refine z_getR C qX11_12 dX11_keptInNight_6 (fun a_1 => ?_)
    refine z_iload_n C 1 dX11_keptInNight_9 rfl ?_
    refine z_bind (fun _ q_4 => ?_)
    refine z_calli (z_runV (As := [.int x1]) (rest := []) C mX11_97 (kX6_hasMaster N h a_1 x1) q_4 (Nat.le_of_ble_eq_true rfl) ⟨Nat.zero_le _, Nat.zero_le _⟩ dX11_keptInNight_10 rfl rfl (Nat.le_of_ble_eq_true rfl)) rfl (fun v_3 h_2 => ?_)
    refine z_ifne C 18 dX11_keptInNight_13 rfl ?_ ?_
    · refine z_aload_n C 0 dX11_keptInNight_18 rfl ?_
      refine z_bind (fun _ q_7 => ?_)
      refine z_callr (z_runV (As := []) (rest := []) C mX11_123 (kX11_holding N h_2 a0) q_7 (Nat.le_of_ble_eq_true rfl) ⟨Nat.zero_le _, Nat.zero_le _⟩ dX11_keptInNight_19 rfl rfl (Nat.le_of_ble_eq_true rfl)) rfl (fun a_6 h_5 => ?_)
      refine z_iload_n C 1 dX11_keptInNight_22 rfl ?_
      refine z_aload_n C 0 dX11_keptInNight_23 rfl ?_
      refine z_getR C qX11_12 dX11_keptInNight_24 (fun a_8 => ?_)
      refine z_getR C qX11_104 dX11_keptInNight_27 (fun a_9 => ?_)
      refine z_iload_n C 1 dX11_keptInNight_30 rfl ?_
      refine z_iaload C dX11_keptInNight_31 (fun v_10 => ?_)
      refine z_iload_n C 2 dX11_keptInNight_32 rfl ?_
      refine z_iload_n C 3 dX11_keptInNight_33 rfl ?_
      refine z_aload_n C 0 dX11_keptInNight_34 rfl ?_
      refine z_getR C qX11_85 dX11_keptInNight_35 (fun a_11 => ?_)
      refine z_bind (fun _ q_13 => ?_)
      refine z_callv (z_runV (As := [.int x1, .int v_10, .int x2, .int x3, .ref a_11]) (rest := []) C mX11_127 (kX5_weigh N h_5 a_6 x1 v_10 x2 x3 a_11) q_13 (Nat.le_of_ble_eq_true rfl) ⟨Nat.zero_le _, Nat.zero_le _⟩ dX11_keptInNight_38 rfl rfl (Nat.le_of_ble_eq_true rfl)) rfl (fun _ h_12 => ?_)
      refine z_iconst (v := (0 : Int32)) C dX11_keptInNight_41 rfl ?_
      refine z_istore C dX11_keptInNight_42 [(5, .int (0 : Int32)), (0, .ref a0), (1, .int x1), (2, .int x2), (3, .int x3), (4, .int x4)] (by decide) rfl ?_
      refine z_iconst (v := (0 : Int32)) C dX11_keptInNight_44 rfl ?_
      refine z_istore C dX11_keptInNight_45 [(6, .int (0 : Int32)), (5, .int (0 : Int32)), (0, .ref a0), (1, .int x1), (2, .int x2), (3, .int x3), (4, .int x4)] (by decide) rfl ?_
      exact z_lv _ [2, 3, 4, 5, 6, 1, 0] rfl (tX11_keptInNight_47 C N N _ a0 x1 x2 x3 x4 (0 : Int32) (0 : Int32))
    · refine z_iconst (v := (0 : Int32)) C dX11_keptInNight_16 rfl ?_
      exact z_ireturn C ⟨rfl, rfl⟩ dX11_keptInNight_17
def bX11_nightsKept_2 (N : Nat) (r2 : AH → Nat → Int32 → Int32 → Int32 → Option (Int32 × AH)) (h : AH) (a0 : Nat) (x1 : Int32) (x2 : Int32) (x3 : Int32) : Option (Int32 × AH) :=
  (if (60 : Int32) ≤ x3 then
  some ((60 : Int32), h)
  else
  (zgR h a0 11 0).bind fun a_1 =>
  (zgR h a_1 6 2).bind fun a_2 =>
  (zald 0 h a_2 x1).bind fun v_3 =>
  (zgR h a0 11 0).bind fun a_4 =>
  (zgI h a_4 6 12).bind fun v_5 =>
  (zis h a0 11).bind fun _ =>
  zcall (fX11_keptInNight N h a0 x1 v_3 (v_5 + x3) ((1 : Int32) <<< (x2 &&& 31))) fun v_7 h_6 =>
  (if v_7 = (0) then
  some (x3, h_6)
  else
  r2 h_6 a0 x1 x2 (x3 + (1 : Int32))))
theorem tX11_nightsKept_2 {X : zX} {g : zG} (C : zC X g yX11_nightsKept cX11_nightsKept 4 6 0 0 (some .int)) (N : Nat) (n : Nat) : ∀ (h : AH) (a0 : Nat) (x1 : Int32) (x2 : Int32) (x3 : Int32), ZZ X g 4 (0, 0, 0, 0) (fun v : Int32 => some (.int v)) (zfix (fun _ _ _ _ _ => none) (bX11_nightsKept_2 N) n h a0 x1 x2 x3) h 2 [(0, .ref a0), (1, .int x1), (2, .int x2), (3, .int x3)] [] := by
  induction n with
  | zero => intro h a0 x1 x2 x3; exact z_none
  | succ n hr2 =>
    intro h a0 x1 x2 x3
    show ZZ X g 4 (0, 0, 0, 0) _ (bX11_nightsKept_2 N (zfix (fun _ _ _ _ _ => none) (bX11_nightsKept_2 N) n) h a0 x1 x2 x3) h 2 _ _
    unfold bX11_nightsKept_2
    refine z_iload_n C 3 dX11_nightsKept_2 rfl ?_
    refine z_bipush (v := (60 : Int32)) C dX11_nightsKept_3 rfl ?_
    refine z_icmpge C 45 dX11_nightsKept_5 rfl ?_ ?_
    · refine z_bipush (v := (60 : Int32)) C dX11_nightsKept_45 rfl ?_
      exact z_ireturn C ⟨rfl, rfl⟩ dX11_nightsKept_47
    · refine z_aload_n C 0 dX11_nightsKept_8 rfl ?_
      refine z_iload_n C 1 dX11_nightsKept_9 rfl ?_
      refine z_aload_n C 0 dX11_nightsKept_10 rfl ?_
      refine z_getR C qX11_12 dX11_nightsKept_11 (fun a_1 => ?_)
      refine z_getR C qX11_107 dX11_nightsKept_14 (fun a_2 => ?_)
      refine z_iload_n C 1 dX11_nightsKept_17 rfl ?_
      refine z_iaload C dX11_nightsKept_18 (fun v_3 => ?_)
      refine z_aload_n C 0 dX11_nightsKept_19 rfl ?_
      refine z_getR C qX11_12 dX11_nightsKept_20 (fun a_4 => ?_)
      refine z_getI C qX11_120 dX11_nightsKept_23 (fun v_5 => ?_)
      refine z_iload_n C 3 dX11_nightsKept_26 rfl ?_
      refine z_iadd C dX11_nightsKept_27 ?_
      refine z_iconst (v := (1 : Int32)) C dX11_nightsKept_28 rfl ?_
      refine z_iload_n C 2 dX11_nightsKept_29 rfl ?_
      refine z_ishl C dX11_nightsKept_30 ?_
      refine z_bind (fun _ q_8 => ?_)
      refine z_calli (z_runV (As := [.int x1, .int v_3, .int (v_5 + x3), .int ((1 : Int32) <<< (x2 &&& 31))]) (rest := []) C mX11_346 (kX11_keptInNight N h a0 x1 v_3 (v_5 + x3) ((1 : Int32) <<< (x2 &&& 31))) q_8 (Nat.le_of_ble_eq_true rfl) ⟨Nat.zero_le _, Nat.zero_le _⟩ dX11_nightsKept_31 rfl rfl (Nat.le_of_ble_eq_true rfl)) rfl (fun v_7 h_6 => ?_)
      refine z_ifne C 39 dX11_nightsKept_34 rfl ?_ ?_
      · refine z_iinc (v := x3 + (1 : Int32)) C 3 dX11_nightsKept_39 [(3, .int (x3 + (1 : Int32))), (0, .ref a0), (1, .int x1), (2, .int x2)] rfl rfl (by decide) rfl ?_
        refine z_goto C 2 dX11_nightsKept_42 rfl ?_
        exact z_lv _ [1, 2, 3, 0] rfl (hr2 _ a0 x1 x2 (x3 + (1 : Int32)))
      · refine z_iload_n C 3 dX11_nightsKept_37 rfl ?_
        exact z_ireturn C ⟨rfl, rfl⟩ dX11_nightsKept_38
def fX11_nightsKept (N : Nat) (h : AH) (a0 : Nat) (x1 : Int32) (x2 : Int32) : Option (Int32 × AH) :=
  zfix (fun _ _ _ _ _ => none) (bX11_nightsKept_2 N) N h a0 x1 x2 (0 : Int32)
theorem kX11_nightsKept {l : Launch} {g : zG} (N : Nat) (h : AH) (a0 : Nat) (x1 : Int32) (x2 : Int32) : zM l g yX11_nightsKept cX11_nightsKept 4 (some .int) (6) 0 0 (fun v : Int32 => some (.int v)) (fX11_nightsKept N h a0 x1 x2) h [.ref a0, .int x1, .int x2] := by
  refine zM.of (lv0 := [(0, .ref a0), (1, .int x1), (2, .int x2)]) (by decide) (Nat.le_of_ble_eq_true rfl) rfl (fun X hX C => ?_)
  subst hX
  unfold fX11_nightsKept
  refine z_iconst (v := (0 : Int32)) C dX11_nightsKept_0 rfl ?_
  refine z_istore_n C dX11_nightsKept_1 [(3, .int (0 : Int32)), (0, .ref a0), (1, .int x1), (2, .int x2)] (by decide) rfl ?_
  exact z_lv _ [1, 2, 3, 0] rfl (tX11_nightsKept_2 C N N _ a0 x1 x2 (0 : Int32))
def bX11_nightsUntilBlank_12 (N : Nat) (r12 : AH → Nat → Int32 → Int32 → Int32 → Option (Int32 × AH)) (h : AH) (a0 : Nat) (x1 : Int32) (x2 : Int32) (x3 : Int32) : Option (Int32 × AH) :=
  (if (60 : Int32) < x3 then
  some ((-5 : Int32), h)
  else
  (if x2 = (0) then
  some (x3, h)
  else
  (zgR h a0 11 0).bind fun a_1 =>
  (zgR h a_1 6 2).bind fun a_2 =>
  (zald 0 h a_2 x1).bind fun v_3 =>
  (zgR h a0 11 0).bind fun a_4 =>
  (zgI h a_4 6 12).bind fun v_5 =>
  (zis h a0 11).bind fun _ =>
  zcall (fX11_keptInNight N h a0 x1 v_3 (v_5 + x3) x2) fun v_7 h_6 =>
  r12 h_6 a0 x1 v_7 (x3 + (1 : Int32))))
theorem tX11_nightsUntilBlank_12 {X : zX} {g : zG} (C : zC X g yX11_nightsUntilBlank cX11_nightsUntilBlank 4 6 0 0 (some .int)) (N : Nat) (n : Nat) : ∀ (h : AH) (a0 : Nat) (x1 : Int32) (x2 : Int32) (x3 : Int32), ZZ X g 4 (0, 0, 0, 0) (fun v : Int32 => some (.int v)) (zfix (fun _ _ _ _ _ => none) (bX11_nightsUntilBlank_12 N) n h a0 x1 x2 x3) h 12 [(0, .ref a0), (1, .int x1), (2, .int x2), (3, .int x3)] [] := by
  induction n with
  | zero => intro h a0 x1 x2 x3; exact z_none
  | succ n hr12 =>
    intro h a0 x1 x2 x3
    show ZZ X g 4 (0, 0, 0, 0) _ (bX11_nightsUntilBlank_12 N (zfix (fun _ _ _ _ _ => none) (bX11_nightsUntilBlank_12 N) n) h a0 x1 x2 x3) h 12 _ _
    unfold bX11_nightsUntilBlank_12
    refine z_iload_n C 3 dX11_nightsUntilBlank_12 rfl ?_
    refine z_bipush (v := (60 : Int32)) C dX11_nightsUntilBlank_13 rfl ?_
    refine z_icmpgt C 55 dX11_nightsUntilBlank_15 rfl ?_ ?_
    · refine z_bipush (v := (-5 : Int32)) C dX11_nightsUntilBlank_55 rfl ?_
      exact z_ireturn C ⟨rfl, rfl⟩ dX11_nightsUntilBlank_57
    · refine z_iload_n C 2 dX11_nightsUntilBlank_18 rfl ?_
      refine z_ifne C 24 dX11_nightsUntilBlank_19 rfl ?_ ?_
      · refine z_aload_n C 0 dX11_nightsUntilBlank_24 rfl ?_
        refine z_iload_n C 1 dX11_nightsUntilBlank_25 rfl ?_
        refine z_aload_n C 0 dX11_nightsUntilBlank_26 rfl ?_
        refine z_getR C qX11_12 dX11_nightsUntilBlank_27 (fun a_1 => ?_)
        refine z_getR C qX11_107 dX11_nightsUntilBlank_30 (fun a_2 => ?_)
        refine z_iload_n C 1 dX11_nightsUntilBlank_33 rfl ?_
        refine z_iaload C dX11_nightsUntilBlank_34 (fun v_3 => ?_)
        refine z_aload_n C 0 dX11_nightsUntilBlank_35 rfl ?_
        refine z_getR C qX11_12 dX11_nightsUntilBlank_36 (fun a_4 => ?_)
        refine z_getI C qX11_120 dX11_nightsUntilBlank_39 (fun v_5 => ?_)
        refine z_iload_n C 3 dX11_nightsUntilBlank_42 rfl ?_
        refine z_iadd C dX11_nightsUntilBlank_43 ?_
        refine z_iload_n C 2 dX11_nightsUntilBlank_44 rfl ?_
        refine z_bind (fun _ q_8 => ?_)
        refine z_calli (z_runV (As := [.int x1, .int v_3, .int (v_5 + x3), .int x2]) (rest := []) C mX11_346 (kX11_keptInNight N h a0 x1 v_3 (v_5 + x3) x2) q_8 (Nat.le_of_ble_eq_true rfl) ⟨Nat.zero_le _, Nat.zero_le _⟩ dX11_nightsUntilBlank_45 rfl rfl (Nat.le_of_ble_eq_true rfl)) rfl (fun v_7 h_6 => ?_)
        refine z_istore_n C dX11_nightsUntilBlank_48 [(2, .int v_7), (0, .ref a0), (1, .int x1), (3, .int x3)] (by decide) rfl ?_
        refine z_iinc (v := x3 + (1 : Int32)) C 3 dX11_nightsUntilBlank_49 [(3, .int (x3 + (1 : Int32))), (2, .int v_7), (0, .ref a0), (1, .int x1)] rfl rfl (by decide) rfl ?_
        refine z_goto C 12 dX11_nightsUntilBlank_52 rfl ?_
        exact z_lv _ [2, 3, 1, 0] rfl (hr12 _ a0 x1 v_7 (x3 + (1 : Int32)))
      · refine z_iload_n C 3 dX11_nightsUntilBlank_22 rfl ?_
        exact z_ireturn C ⟨rfl, rfl⟩ dX11_nightsUntilBlank_23
def fX11_nightsUntilBlank (N : Nat) (h : AH) (a0 : Nat) (x1 : Int32) : Option (Int32 × AH) :=
  (zgR h a0 11 0).bind fun a_1 =>
  (zgR h a_1 6 3).bind fun a_2 =>
  (zald 0 h a_2 x1).bind fun v_3 =>
  zfix (fun _ _ _ _ _ => none) (bX11_nightsUntilBlank_12 N) N h a0 x1 v_3 (0 : Int32)
theorem kX11_nightsUntilBlank {l : Launch} {g : zG} (N : Nat) (h : AH) (a0 : Nat) (x1 : Int32) : zM l g yX11_nightsUntilBlank cX11_nightsUntilBlank 4 (some .int) (6) 0 0 (fun v : Int32 => some (.int v)) (fX11_nightsUntilBlank N h a0 x1) h [.ref a0, .int x1] := by
  refine zM.of (lv0 := [(0, .ref a0), (1, .int x1)]) (by decide) (Nat.le_of_ble_eq_true rfl) rfl (fun X hX C => ?_)
  subst hX
  unfold fX11_nightsUntilBlank
  refine z_aload_n C 0 dX11_nightsUntilBlank_0 rfl ?_
  refine z_getR C qX11_12 dX11_nightsUntilBlank_1 (fun a_1 => ?_)
  refine z_getR C qX11_110 dX11_nightsUntilBlank_4 (fun a_2 => ?_)
  refine z_iload_n C 1 dX11_nightsUntilBlank_7 rfl ?_
  refine z_iaload C dX11_nightsUntilBlank_8 (fun v_3 => ?_)
  refine z_istore_n C dX11_nightsUntilBlank_9 [(2, .int v_3), (0, .ref a0), (1, .int x1)] (by decide) rfl ?_
  refine z_iconst (v := (0 : Int32)) C dX11_nightsUntilBlank_10 rfl ?_
  refine z_istore_n C dX11_nightsUntilBlank_11 [(3, .int (0 : Int32)), (2, .int v_3), (0, .ref a0), (1, .int x1)] (by decide) rfl ?_
  exact z_lv _ [2, 3, 1, 0] rfl (tX11_nightsUntilBlank_12 C N N _ a0 x1 v_3 (0 : Int32))
def bX11_of_35 (N : Nat) (h : AH) (a0 : Nat) (x1 : Int32) (x2 : Int32) : Option (Int32 × AH) :=
  (if x2 = (0 : Int32) then
  (zgR h a0 11 0).bind fun a_2 =>
  (zgR h a_2 6 1).bind fun a_3 =>
  (zald 0 h a_3 x1).bind fun v_4 =>
  some (v_4, h)
  else if x2 = (1 : Int32) then
  (zgR h a0 11 0).bind fun a_6 =>
  (zgR h a_6 6 2).bind fun a_7 =>
  (zald 0 h a_7 x1).bind fun v_8 =>
  some (v_8, h)
  else if x2 = (2 : Int32) then
  (zgR h a0 11 0).bind fun a_10 =>
  (zgR h a_10 6 3).bind fun a_11 =>
  (zald 0 h a_11 x1).bind fun v_12 =>
  some (v_12, h)
  else if x2 = (3 : Int32) then
  (zis h a0 11).bind fun _ =>
  zcall (fX11_nightsUntilBlank N h a0 x1) fun v_15 h_14 =>
  some (v_15, h_14)
  else 
  some ((-1 : Int32), h))
theorem tX11_of_35 {X : zX} {g : zG} (C : zC X g yX11_of cX11_of 3 7 0 0 (some .int)) (N : Nat) (h : AH) (a0 : Nat) (x1 : Int32) (x2 : Int32) : ZZ X g 3 (0, 0, 0, 0) (fun v : Int32 => some (.int v)) (bX11_of_35 N h a0 x1 x2) h 35 [(0, .ref a0), (1, .int x1), (2, .int x2)] [] := by
  unfold bX11_of_35
  refine z_iload_n C 2 dX11_of_35 rfl ?_
  refine z_ite (fun q_1 => ?_) (fun q_1 => ?_)
  · subst q_1
    refine z_table C 68 dX11_of_36 (by decide) (by decide) rfl rfl ?_
    refine z_aload_n C 0 dX11_of_68 rfl ?_
    refine z_getR C qX11_12 dX11_of_69 (fun a_2 => ?_)
    refine z_getR C qX11_104 dX11_of_72 (fun a_3 => ?_)
    refine z_iload_n C 1 dX11_of_75 rfl ?_
    refine z_iaload C dX11_of_76 (fun v_4 => ?_)
    exact z_ireturn C ⟨rfl, rfl⟩ dX11_of_77
  refine z_ite (fun q_5 => ?_) (fun q_5 => ?_)
  · subst q_5
    refine z_table C 78 dX11_of_36 (by decide) (by decide) rfl rfl ?_
    refine z_aload_n C 0 dX11_of_78 rfl ?_
    refine z_getR C qX11_12 dX11_of_79 (fun a_6 => ?_)
    refine z_getR C qX11_107 dX11_of_82 (fun a_7 => ?_)
    refine z_iload_n C 1 dX11_of_85 rfl ?_
    refine z_iaload C dX11_of_86 (fun v_8 => ?_)
    exact z_ireturn C ⟨rfl, rfl⟩ dX11_of_87
  refine z_ite (fun q_9 => ?_) (fun q_9 => ?_)
  · subst q_9
    refine z_table C 88 dX11_of_36 (by decide) (by decide) rfl rfl ?_
    refine z_aload_n C 0 dX11_of_88 rfl ?_
    refine z_getR C qX11_12 dX11_of_89 (fun a_10 => ?_)
    refine z_getR C qX11_110 dX11_of_92 (fun a_11 => ?_)
    refine z_iload_n C 1 dX11_of_95 rfl ?_
    refine z_iaload C dX11_of_96 (fun v_12 => ?_)
    exact z_ireturn C ⟨rfl, rfl⟩ dX11_of_97
  refine z_ite (fun q_13 => ?_) (fun q_13 => ?_)
  · subst q_13
    refine z_table C 98 dX11_of_36 (by decide) (by decide) rfl rfl ?_
    refine z_aload_n C 0 dX11_of_98 rfl ?_
    refine z_iload_n C 1 dX11_of_99 rfl ?_
    refine z_bind (fun _ q_16 => ?_)
    refine z_calli (z_runV (As := [.int x1]) (rest := []) C mX11_113 (kX11_nightsUntilBlank N h a0 x1) q_16 (Nat.le_of_ble_eq_true rfl) ⟨Nat.zero_le _, Nat.zero_le _⟩ dX11_of_100 rfl rfl (Nat.le_of_ble_eq_true rfl)) rfl (fun v_15 h_14 => ?_)
    exact z_ireturn C ⟨rfl, rfl⟩ dX11_of_103
  refine z_tableO C 104 dX11_of_36 (by have eq_1 := lv_neT (a := 0) q_1 rfl; have eq_5 := lv_neT (a := 1) q_5 rfl; have eq_9 := lv_neT (a := 2) q_9 rfl; have eq_13 := lv_neT (a := 3) q_13 rfl; omega) rfl ?_
  refine z_iconst (v := (-1 : Int32)) C dX11_of_104 rfl ?_
  exact z_ireturn C ⟨rfl, rfl⟩ dX11_of_105
def fX11_of (N : Nat) (h : AH) (a0 : Nat) (x1 : Int32) (x2 : Int32) : Option (Int32 × AH) :=
  (zgR h a0 11 0).bind fun a_1 =>
  (zis h a_1 6).bind fun _ =>
  zcall (fX6_hasMaster N h a_1 x1) fun v_3 h_2 =>
  (if v_3 = (0) then
  some ((-1 : Int32), h_2)
  else
  (if x2 < (10 : Int32) then
  bX11_of_35 N h_2 a0 x1 x2
  else
  (if (18 : Int32) ≤ x2 then
  bX11_of_35 N h_2 a0 x1 x2
  else
  (zis h_2 a0 11).bind fun _ =>
  zcall (fX11_nightsKept N h_2 a0 x1 (x2 - (10 : Int32))) fun v_6 h_5 =>
  some (v_6, h_5))))
theorem kX11_of {l : Launch} {g : zG} (N : Nat) (h : AH) (a0 : Nat) (x1 : Int32) (x2 : Int32) : zM l g yX11_of cX11_of 3 (some .int) (7) 0 0 (fun v : Int32 => some (.int v)) (fX11_of N h a0 x1 x2) h [.ref a0, .int x1, .int x2] := by
  refine zM.of (lv0 := [(0, .ref a0), (1, .int x1), (2, .int x2)]) (by decide) (Nat.le_of_ble_eq_true rfl) rfl (fun X hX C => ?_)
  subst hX
  unfold fX11_of
  refine z_aload_n C 0 dX11_of_0 rfl ?_
  refine z_getR C qX11_12 dX11_of_1 (fun a_1 => ?_)
  refine z_iload_n C 1 dX11_of_4 rfl ?_
  refine z_bind (fun _ q_4 => ?_)
  refine z_calli (z_runV (As := [.int x1]) (rest := []) C mX11_97 (kX6_hasMaster N h a_1 x1) q_4 (Nat.le_of_ble_eq_true rfl) ⟨Nat.zero_le _, Nat.zero_le _⟩ dX11_of_5 rfl rfl (Nat.le_of_ble_eq_true rfl)) rfl (fun v_3 h_2 => ?_)
  refine z_ifne C 13 dX11_of_8 rfl ?_ ?_
  · refine z_iload_n C 2 dX11_of_13 rfl ?_
    refine z_bipush (v := (10 : Int32)) C dX11_of_14 rfl ?_
    refine z_icmplt C 35 dX11_of_16 rfl ?_ ?_
    · exact z_lv _ [0, 1, 2] rfl (tX11_of_35 C N _ a0 x1 x2)
    · refine z_iload_n C 2 dX11_of_19 rfl ?_
      refine z_bipush (v := (18 : Int32)) C dX11_of_20 rfl ?_
      refine z_icmpge C 35 dX11_of_22 rfl ?_ ?_
      · exact z_lv _ [0, 1, 2] rfl (tX11_of_35 C N _ a0 x1 x2)
      · refine z_aload_n C 0 dX11_of_25 rfl ?_
        refine z_iload_n C 1 dX11_of_26 rfl ?_
        refine z_iload_n C 2 dX11_of_27 rfl ?_
        refine z_bipush (v := (10 : Int32)) C dX11_of_28 rfl ?_
        refine z_isub C dX11_of_30 ?_
        refine z_bind (fun _ q_7 => ?_)
        refine z_calli (z_runV (As := [.int x1, .int (x2 - (10 : Int32))]) (rest := []) C mX11_101 (kX11_nightsKept N h_2 a0 x1 (x2 - (10 : Int32))) q_7 (Nat.le_of_ble_eq_true rfl) ⟨Nat.zero_le _, Nat.zero_le _⟩ dX11_of_31 rfl rfl (Nat.le_of_ble_eq_true rfl)) rfl (fun v_6 h_5 => ?_)
        exact z_ireturn C ⟨rfl, rfl⟩ dX11_of_34
  · refine z_iconst (v := (-1 : Int32)) C dX11_of_11 rfl ?_
    exact z_ireturn C ⟨rfl, rfl⟩ dX11_of_12
def fX11_isFact (N : Nat) (h : AH) (x0 : Int32) : Option (Int32 × AH) :=
  (if x0 < (0) then
  zret .boolean (0 : Int32) h
  else
  (if (8 : Int32) ≤ x0 then
  zret .boolean (0 : Int32) h
  else
  zret .boolean (1 : Int32) h))
theorem kX11_isFact {l : Launch} {g : zG} (N : Nat) (h : AH) (x0 : Int32) : zM l g yX11_isFact cX11_isFact 1 (some .boolean) (1) 0 0 (fun v : Int32 => some (.int v)) (fX11_isFact N h x0) h [.int x0] := by
  refine zM.of (lv0 := [(0, .int x0)]) (by decide) (Nat.le_of_ble_eq_true rfl) rfl (fun X hX C => ?_)
  subst hX
  unfold fX11_isFact
  refine z_iload_n C 0 dX11_isFact_0 rfl ?_
  refine z_iflt C 14 dX11_isFact_1 rfl ?_ ?_
  · refine z_iconst (v := (0 : Int32)) C dX11_isFact_14 rfl ?_
    exact z_zreturn C ⟨rfl, rfl⟩ dX11_isFact_15
  · refine z_iload_n C 0 dX11_isFact_4 rfl ?_
    refine z_bipush (v := (8 : Int32)) C dX11_isFact_5 rfl ?_
    refine z_icmpge C 14 dX11_isFact_7 rfl ?_ ?_
    · refine z_iconst (v := (0 : Int32)) C dX11_isFact_14 rfl ?_
      exact z_zreturn C ⟨rfl, rfl⟩ dX11_isFact_15
    · refine z_iconst (v := (1 : Int32)) C dX11_isFact_10 rfl ?_
      refine z_goto C 15 dX11_isFact_11 rfl ?_
      exact z_zreturn C ⟨rfl, rfl⟩ dX11_isFact_15
def fX11_grip (N : Nat) (h : AH) (a0 : Nat) (x1 : Int32) (x2 : Int32) (x3 : Int32) : Option (Int32 × AH) :=
  (zgR h a0 11 0).bind fun a_1 =>
  (zis h a_1 6).bind fun _ =>
  zcall (fX6_hasMaster N h a_1 x1) fun v_3 h_2 =>
  (if v_3 = (0) then
  some ((-10001 : Int32), h_2)
  else
  zcall (fX11_isFact N h_2 x2) fun v_6 h_5 =>
  (if v_6 = (0) then
  some ((-10001 : Int32), h_5)
  else
  (if x3 < (0) then
  some ((-10002 : Int32), h_5)
  else
  (if x3 ≤ (60 : Int32) then
  (zgR h_5 a0 11 0).bind fun a_7 =>
  (zgR h_5 a_7 6 2).bind fun a_8 =>
  (zald 0 h_5 a_8 x1).bind fun v_9 =>
  (zgR h_5 a0 11 0).bind fun a_10 =>
  (zgI h_5 a_10 6 12).bind fun v_11 =>
  znm (v_11 + x3) fun y_12 =>
  (zis h_5 a0 11).bind fun _ =>
  zcall (fX11_holding N h_5 a0) fun a_14 h_13 =>
  (zgR h_13 a0 11 0).bind fun a_16 =>
  (zgR h_13 a_16 6 1).bind fun a_17 =>
  (zald 0 h_13 a_17 x1).bind fun v_18 =>
  (zgR h_13 a0 11 11).bind fun a_19 =>
  (zis h_13 a_14 5).bind fun _ =>
  zcall (fX5_weigh N h_13 a_14 x1 v_18 v_9 y_12 a_19) fun _ h_20 =>
  (zis h_20 a0 11).bind fun _ =>
  zcall (fX11_weighedGrip N h_20 a0 x1 v_9 y_12 x2) fun v_23 h_22 =>
  some (v_23, h_22)
  else
  some ((-10002 : Int32), h_5)))))
theorem kX11_grip {l : Launch} {g : zG} (N : Nat) (h : AH) (a0 : Nat) (x1 : Int32) (x2 : Int32) (x3 : Int32) : zM l g yX11_grip cX11_grip 6 (some .int) (5) 0 0 (fun v : Int32 => some (.int v)) (fX11_grip N h a0 x1 x2 x3) h [.ref a0, .int x1, .int x2, .int x3] := by
  refine zM.of (lv0 := [(0, .ref a0), (1, .int x1), (2, .int x2), (3, .int x3)]) (by decide) (Nat.le_of_ble_eq_true rfl) rfl (fun X hX C => ?_)
  subst hX
  unfold fX11_grip
  refine z_aload_n C 0 dX11_grip_0 rfl ?_
  refine z_getR C qX11_12 dX11_grip_1 (fun a_1 => ?_)
  refine z_iload_n C 1 dX11_grip_4 rfl ?_
  refine z_bind (fun _ q_4 => ?_)
  refine z_calli (z_runV (As := [.int x1]) (rest := []) C mX11_97 (kX6_hasMaster N h a_1 x1) q_4 (Nat.le_of_ble_eq_true rfl) ⟨Nat.zero_le _, Nat.zero_le _⟩ dX11_grip_5 rfl rfl (Nat.le_of_ble_eq_true rfl)) rfl (fun v_3 h_2 => ?_)
  refine z_ifeq C 18 dX11_grip_8 rfl ?_ ?_
  · refine z_sipush (v := (-10001 : Int32)) C dX11_grip_18 rfl ?_
    exact z_ireturn C ⟨rfl, rfl⟩ dX11_grip_21
  · refine z_iload_n C 2 dX11_grip_11 rfl ?_
    refine z_calli (z_runS (As := [.int x2]) (rest := []) C mX11_117 (kX11_isFact N h_2 x2) (Nat.le_of_ble_eq_true rfl) ⟨Nat.zero_le _, Nat.zero_le _⟩ dX11_grip_12 rfl rfl (Nat.le_of_ble_eq_true rfl)) rfl (fun v_6 h_5 => ?_)
    refine z_ifne C 22 dX11_grip_15 rfl ?_ ?_
    · refine z_iload_n C 3 dX11_grip_22 rfl ?_
      refine z_iflt C 32 dX11_grip_23 rfl ?_ ?_
      · refine z_sipush (v := (-10002 : Int32)) C dX11_grip_32 rfl ?_
        exact z_ireturn C ⟨rfl, rfl⟩ dX11_grip_35
      · refine z_iload_n C 3 dX11_grip_26 rfl ?_
        refine z_bipush (v := (60 : Int32)) C dX11_grip_27 rfl ?_
        refine z_icmple C 36 dX11_grip_29 rfl ?_ ?_
        · refine z_aload_n C 0 dX11_grip_36 rfl ?_
          refine z_getR C qX11_12 dX11_grip_37 (fun a_7 => ?_)
          refine z_getR C qX11_107 dX11_grip_40 (fun a_8 => ?_)
          refine z_iload_n C 1 dX11_grip_43 rfl ?_
          refine z_iaload C dX11_grip_44 (fun v_9 => ?_)
          refine z_istore C dX11_grip_45 [(4, .int v_9), (0, .ref a0), (1, .int x1), (2, .int x2), (3, .int x3)] (by decide) rfl ?_
          refine z_aload_n C 1 dX11_grip_47 rfl ?_
          refine z_getR C qX11_12 dX11_grip_48 (fun a_10 => ?_)
          refine z_getI C qX11_120 dX11_grip_51 (fun v_11 => ?_)
          refine z_iload_n C 4 dX11_grip_54 rfl ?_
          refine z_iadd C dX11_grip_55 ?_
          refine z_nmI (fun y_12 => ?_)
          refine z_istore C dX11_grip_56 [(5, .int y_12), (4, .int v_9), (0, .ref a0), (1, .int x1), (2, .int x2), (3, .int x3)] (by decide) rfl ?_
          refine z_aload_n C 2 dX11_grip_58 rfl ?_
          refine z_bind (fun _ q_15 => ?_)
          refine z_callr (z_runV (As := []) (rest := []) C mX11_123 (kX11_holding N h_5 a0) q_15 (Nat.le_of_ble_eq_true rfl) ⟨Nat.zero_le _, Nat.zero_le _⟩ dX11_grip_59 rfl rfl (Nat.le_of_ble_eq_true rfl)) rfl (fun a_14 h_13 => ?_)
          refine z_iload_n C 3 dX11_grip_62 rfl ?_
          refine z_aload_n C 2 dX11_grip_63 rfl ?_
          refine z_getR C qX11_12 dX11_grip_64 (fun a_16 => ?_)
          refine z_getR C qX11_104 dX11_grip_67 (fun a_17 => ?_)
          refine z_iload_n C 3 dX11_grip_70 rfl ?_
          refine z_iaload C dX11_grip_71 (fun v_18 => ?_)
          refine z_iload C 1 dX11_grip_72 rfl ?_
          refine z_iload C 0 dX11_grip_74 rfl ?_
          refine z_aload_n C 2 dX11_grip_76 rfl ?_
          refine z_getR C qX11_85 dX11_grip_77 (fun a_19 => ?_)
          refine z_bind (fun _ q_21 => ?_)
          refine z_callv (z_runV (As := [.int x1, .int v_18, .int v_9, .int y_12, .ref a_19]) (rest := []) C mX11_127 (kX5_weigh N h_13 a_14 x1 v_18 v_9 y_12 a_19) q_21 (Nat.le_of_ble_eq_true rfl) ⟨Nat.zero_le _, Nat.zero_le _⟩ dX11_grip_80 rfl rfl (Nat.le_of_ble_eq_true rfl)) rfl (fun _ h_20 => ?_)
          refine z_aload_n C 2 dX11_grip_83 rfl ?_
          refine z_iload_n C 3 dX11_grip_84 rfl ?_
          refine z_iload C 1 dX11_grip_85 rfl ?_
          refine z_iload C 0 dX11_grip_87 rfl ?_
          refine z_iload_n C 4 dX11_grip_89 rfl ?_
          refine z_bind (fun _ q_24 => ?_)
          refine z_calli (z_runV (As := [.int x1, .int v_9, .int y_12, .int x2]) (rest := []) C mX11_131 (kX11_weighedGrip N h_20 a0 x1 v_9 y_12 x2) q_24 (Nat.le_of_ble_eq_true rfl) ⟨Nat.zero_le _, Nat.zero_le _⟩ dX11_grip_90 rfl rfl (Nat.le_of_ble_eq_true rfl)) rfl (fun v_23 h_22 => ?_)
          exact z_ireturn C ⟨rfl, rfl⟩ dX11_grip_93
        · refine z_sipush (v := (-10002 : Int32)) C dX11_grip_32 rfl ?_
          exact z_ireturn C ⟨rfl, rfl⟩ dX11_grip_35
    · refine z_sipush (v := (-10001 : Int32)) C dX11_grip_18 rfl ?_
      exact z_ireturn C ⟨rfl, rfl⟩ dX11_grip_21
def fX11_tell (N : Nat) (h : AH) (a0 : Nat) (x1 : Int32) (x2 : Int32) : Option (Int32 × AH) :=
  (zgR h a0 11 0).bind fun a_1 =>
  (zis h a_1 6).bind fun _ =>
  zcall (fX6_hasMaster N h a_1 x1) fun v_3 h_2 =>
  (if v_3 = (0) then
  some ((-1 : Int32), h_2)
  else
  zcall (fX11_isFact N h_2 x2) fun v_6 h_5 =>
  (if v_6 = (0) then
  some ((-1 : Int32), h_5)
  else
  (zgR h_5 a0 11 0).bind fun a_7 =>
  (zgR h_5 a_7 6 3).bind fun a_8 =>
  (zald 0 h_5 a_8 x1).bind fun v_9 =>
  (zast 0 h_5 a_8 x1 (v_9 ||| ((1 : Int32) <<< (x2 &&& 31)))).bind fun h_10 =>
  (zgR h_10 a0 11 0).bind fun a_11 =>
  (zgR h_10 a_11 6 3).bind fun a_12 =>
  (zald 0 h_10 a_12 x1).bind fun v_13 =>
  some (v_13, h_10)))
theorem kX11_tell {l : Launch} {g : zG} (N : Nat) (h : AH) (a0 : Nat) (x1 : Int32) (x2 : Int32) : zM l g yX11_tell cX11_tell 3 (some .int) (2) 0 0 (fun v : Int32 => some (.int v)) (fX11_tell N h a0 x1 x2) h [.ref a0, .int x1, .int x2] := by
  refine zM.of (lv0 := [(0, .ref a0), (1, .int x1), (2, .int x2)]) (by decide) (Nat.le_of_ble_eq_true rfl) rfl (fun X hX C => ?_)
  subst hX
  unfold fX11_tell
  refine z_aload_n C 0 dX11_tell_0 rfl ?_
  refine z_getR C qX11_12 dX11_tell_1 (fun a_1 => ?_)
  refine z_iload_n C 1 dX11_tell_4 rfl ?_
  refine z_bind (fun _ q_4 => ?_)
  refine z_calli (z_runV (As := [.int x1]) (rest := []) C mX11_97 (kX6_hasMaster N h a_1 x1) q_4 (Nat.le_of_ble_eq_true rfl) ⟨Nat.zero_le _, Nat.zero_le _⟩ dX11_tell_5 rfl rfl (Nat.le_of_ble_eq_true rfl)) rfl (fun v_3 h_2 => ?_)
  refine z_ifeq C 18 dX11_tell_8 rfl ?_ ?_
  · refine z_iconst (v := (-1 : Int32)) C dX11_tell_18 rfl ?_
    exact z_ireturn C ⟨rfl, rfl⟩ dX11_tell_19
  · refine z_iload_n C 2 dX11_tell_11 rfl ?_
    refine z_calli (z_runS (As := [.int x2]) (rest := []) C mX11_117 (kX11_isFact N h_2 x2) (Nat.le_of_ble_eq_true rfl) ⟨Nat.zero_le _, Nat.zero_le _⟩ dX11_tell_12 rfl rfl (Nat.le_of_ble_eq_true rfl)) rfl (fun v_6 h_5 => ?_)
    refine z_ifne C 20 dX11_tell_15 rfl ?_ ?_
    · refine z_aload_n C 0 dX11_tell_20 rfl ?_
      refine z_getR C qX11_12 dX11_tell_21 (fun a_7 => ?_)
      refine z_getR C qX11_110 dX11_tell_24 (fun a_8 => ?_)
      refine z_iload_n C 1 dX11_tell_27 rfl ?_
      refine z_dup2 C dX11_tell_28 rfl rfl ?_
      refine z_iaload C dX11_tell_29 (fun v_9 => ?_)
      refine z_iconst (v := (1 : Int32)) C dX11_tell_30 rfl ?_
      refine z_iload_n C 2 dX11_tell_31 rfl ?_
      refine z_ishl C dX11_tell_32 ?_
      refine z_ior C dX11_tell_33 ?_
      refine z_iastore C dX11_tell_34 (fun h_10 => ?_)
      refine z_aload_n C 0 dX11_tell_35 rfl ?_
      refine z_getR C qX11_12 dX11_tell_36 (fun a_11 => ?_)
      refine z_getR C qX11_110 dX11_tell_39 (fun a_12 => ?_)
      refine z_iload_n C 1 dX11_tell_42 rfl ?_
      refine z_iaload C dX11_tell_43 (fun v_13 => ?_)
      exact z_ireturn C ⟨rfl, rfl⟩ dX11_tell_44
    · refine z_iconst (v := (-1 : Int32)) C dX11_tell_18 rfl ?_
      exact z_ireturn C ⟨rfl, rfl⟩ dX11_tell_19
def fX11_isSet (N : Nat) (h : AH) (x0 : Int32) : Option (Int32 × AH) :=
  (if x0 < (0) then
  zret .boolean (0 : Int32) h
  else
  (if (255 : Int32) < x0 then
  zret .boolean (0 : Int32) h
  else
  zret .boolean (1 : Int32) h))
theorem kX11_isSet {l : Launch} {g : zG} (N : Nat) (h : AH) (x0 : Int32) : zM l g yX11_isSet cX11_isSet 1 (some .boolean) (1) 0 0 (fun v : Int32 => some (.int v)) (fX11_isSet N h x0) h [.int x0] := by
  refine zM.of (lv0 := [(0, .int x0)]) (by decide) (Nat.le_of_ble_eq_true rfl) rfl (fun X hX C => ?_)
  subst hX
  unfold fX11_isSet
  refine z_iload_n C 0 dX11_isSet_0 rfl ?_
  refine z_iflt C 15 dX11_isSet_1 rfl ?_ ?_
  · refine z_iconst (v := (0 : Int32)) C dX11_isSet_15 rfl ?_
    exact z_zreturn C ⟨rfl, rfl⟩ dX11_isSet_16
  · refine z_iload_n C 0 dX11_isSet_4 rfl ?_
    refine z_sipush (v := (255 : Int32)) C dX11_isSet_5 rfl ?_
    refine z_icmpgt C 15 dX11_isSet_8 rfl ?_ ?_
    · refine z_iconst (v := (0 : Int32)) C dX11_isSet_15 rfl ?_
      exact z_zreturn C ⟨rfl, rfl⟩ dX11_isSet_16
    · refine z_iconst (v := (1 : Int32)) C dX11_isSet_11 rfl ?_
      refine z_goto C 16 dX11_isSet_12 rfl ?_
      exact z_zreturn C ⟨rfl, rfl⟩ dX11_isSet_16
def fX11_mind (N : Nat) (h : AH) (a0 : Nat) (x1 : Int32) (x2 : Int32) : Option (Int32 × AH) :=
  (zgR h a0 11 0).bind fun a_1 =>
  (zis h a_1 6).bind fun _ =>
  zcall (fX6_hasMaster N h a_1 x1) fun v_3 h_2 =>
  (if v_3 = (0) then
  some ((-1 : Int32), h_2)
  else
  zcall (fX11_isSet N h_2 x2) fun v_6 h_5 =>
  (if v_6 = (0) then
  some ((-2 : Int32), h_5)
  else
  (zgR h_5 a0 11 0).bind fun a_7 =>
  (zgR h_5 a_7 6 3).bind fun a_8 =>
  (zald 0 h_5 a_8 x1).bind fun v_9 =>
  (zgR h_5 a0 11 0).bind fun a_10 =>
  (zgR h_5 a_10 6 3).bind fun a_11 =>
  (zast 0 h_5 a_11 x1 x2).bind fun h_12 =>
  some (v_9, h_12)))
theorem kX11_mind {l : Launch} {g : zG} (N : Nat) (h : AH) (a0 : Nat) (x1 : Int32) (x2 : Int32) : zM l g yX11_mind cX11_mind 4 (some .int) (2) 0 0 (fun v : Int32 => some (.int v)) (fX11_mind N h a0 x1 x2) h [.ref a0, .int x1, .int x2] := by
  refine zM.of (lv0 := [(0, .ref a0), (1, .int x1), (2, .int x2)]) (by decide) (Nat.le_of_ble_eq_true rfl) rfl (fun X hX C => ?_)
  subst hX
  unfold fX11_mind
  refine z_aload_n C 0 dX11_mind_0 rfl ?_
  refine z_getR C qX11_12 dX11_mind_1 (fun a_1 => ?_)
  refine z_iload_n C 1 dX11_mind_4 rfl ?_
  refine z_bind (fun _ q_4 => ?_)
  refine z_calli (z_runV (As := [.int x1]) (rest := []) C mX11_97 (kX6_hasMaster N h a_1 x1) q_4 (Nat.le_of_ble_eq_true rfl) ⟨Nat.zero_le _, Nat.zero_le _⟩ dX11_mind_5 rfl rfl (Nat.le_of_ble_eq_true rfl)) rfl (fun v_3 h_2 => ?_)
  refine z_ifne C 13 dX11_mind_8 rfl ?_ ?_
  · refine z_iload_n C 2 dX11_mind_13 rfl ?_
    refine z_calli (z_runS (As := [.int x2]) (rest := []) C mX11_135 (kX11_isSet N h_2 x2) (Nat.le_of_ble_eq_true rfl) ⟨Nat.zero_le _, Nat.zero_le _⟩ dX11_mind_14 rfl rfl (Nat.le_of_ble_eq_true rfl)) rfl (fun v_6 h_5 => ?_)
    refine z_ifne C 23 dX11_mind_17 rfl ?_ ?_
    · refine z_aload_n C 0 dX11_mind_23 rfl ?_
      refine z_getR C qX11_12 dX11_mind_24 (fun a_7 => ?_)
      refine z_getR C qX11_110 dX11_mind_27 (fun a_8 => ?_)
      refine z_iload_n C 1 dX11_mind_30 rfl ?_
      refine z_iaload C dX11_mind_31 (fun v_9 => ?_)
      refine z_istore_n C dX11_mind_32 [(3, .int v_9), (0, .ref a0), (1, .int x1), (2, .int x2)] (by decide) rfl ?_
      refine z_aload_n C 1 dX11_mind_33 rfl ?_
      refine z_getR C qX11_12 dX11_mind_34 (fun a_10 => ?_)
      refine z_getR C qX11_110 dX11_mind_37 (fun a_11 => ?_)
      refine z_iload_n C 2 dX11_mind_40 rfl ?_
      refine z_iload_n C 3 dX11_mind_41 rfl ?_
      refine z_iastore C dX11_mind_42 (fun h_12 => ?_)
      refine z_iload_n C 0 dX11_mind_43 rfl ?_
      exact z_ireturn C ⟨rfl, rfl⟩ dX11_mind_44
    · refine z_bipush (v := (-2 : Int32)) C dX11_mind_20 rfl ?_
      exact z_ireturn C ⟨rfl, rfl⟩ dX11_mind_22
  · refine z_iconst (v := (-1 : Int32)) C dX11_mind_11 rfl ?_
    exact z_ireturn C ⟨rfl, rfl⟩ dX11_mind_12
def fX11_deed (N : Nat) (h : AH) (a0 : Nat) (x1 : Int32) (x2 : Int32) (x3 : Int32) : Option (Int32 × AH) :=
  (zgR h a0 11 0).bind fun a_1 =>
  (zis h a_1 6).bind fun _ =>
  zcall (fX6_hasMaster N h a_1 x1) fun v_3 h_2 =>
  (if v_3 = (0) then
  some ((-1 : Int32), h_2)
  else
  zcall (fX11_isSet N h_2 x2) fun v_6 h_5 =>
  (if v_6 = (0) then
  some ((-2 : Int32), h_5)
  else
  (if x3 < (0) then
  some ((-2 : Int32), h_5)
  else
  (if x3 ≤ (20 : Int32) then
  (zgR h_5 a0 11 0).bind fun a_7 =>
  (zis h_5 a_7 6).bind fun _ =>
  zcall (fX6_addDeed N h_5 a_7 x1 x2 x3) fun v_9 h_8 =>
  some (v_9, h_8)
  else
  some ((-2 : Int32), h_5)))))
theorem kX11_deed {l : Launch} {g : zG} (N : Nat) (h : AH) (a0 : Nat) (x1 : Int32) (x2 : Int32) (x3 : Int32) : zM l g yX11_deed cX11_deed 4 (some .int) (2) 0 0 (fun v : Int32 => some (.int v)) (fX11_deed N h a0 x1 x2 x3) h [.ref a0, .int x1, .int x2, .int x3] := by
  refine zM.of (lv0 := [(0, .ref a0), (1, .int x1), (2, .int x2), (3, .int x3)]) (by decide) (Nat.le_of_ble_eq_true rfl) rfl (fun X hX C => ?_)
  subst hX
  unfold fX11_deed
  refine z_aload_n C 0 dX11_deed_0 rfl ?_
  refine z_getR C qX11_12 dX11_deed_1 (fun a_1 => ?_)
  refine z_iload_n C 1 dX11_deed_4 rfl ?_
  refine z_bind (fun _ q_4 => ?_)
  refine z_calli (z_runV (As := [.int x1]) (rest := []) C mX11_97 (kX6_hasMaster N h a_1 x1) q_4 (Nat.le_of_ble_eq_true rfl) ⟨Nat.zero_le _, Nat.zero_le _⟩ dX11_deed_5 rfl rfl (Nat.le_of_ble_eq_true rfl)) rfl (fun v_3 h_2 => ?_)
  refine z_ifne C 13 dX11_deed_8 rfl ?_ ?_
  · refine z_iload_n C 2 dX11_deed_13 rfl ?_
    refine z_calli (z_runS (As := [.int x2]) (rest := []) C mX11_135 (kX11_isSet N h_2 x2) (Nat.le_of_ble_eq_true rfl) ⟨Nat.zero_le _, Nat.zero_le _⟩ dX11_deed_14 rfl rfl (Nat.le_of_ble_eq_true rfl)) rfl (fun v_6 h_5 => ?_)
    refine z_ifeq C 30 dX11_deed_17 rfl ?_ ?_
    · refine z_bipush (v := (-2 : Int32)) C dX11_deed_30 rfl ?_
      exact z_ireturn C ⟨rfl, rfl⟩ dX11_deed_32
    · refine z_iload_n C 3 dX11_deed_20 rfl ?_
      refine z_iflt C 30 dX11_deed_21 rfl ?_ ?_
      · refine z_bipush (v := (-2 : Int32)) C dX11_deed_30 rfl ?_
        exact z_ireturn C ⟨rfl, rfl⟩ dX11_deed_32
      · refine z_iload_n C 3 dX11_deed_24 rfl ?_
        refine z_bipush (v := (20 : Int32)) C dX11_deed_25 rfl ?_
        refine z_icmple C 33 dX11_deed_27 rfl ?_ ?_
        · refine z_aload_n C 0 dX11_deed_33 rfl ?_
          refine z_getR C qX11_12 dX11_deed_34 (fun a_7 => ?_)
          refine z_iload_n C 1 dX11_deed_37 rfl ?_
          refine z_iload_n C 2 dX11_deed_38 rfl ?_
          refine z_iload_n C 3 dX11_deed_39 rfl ?_
          refine z_bind (fun _ q_10 => ?_)
          refine z_calli (z_runV (As := [.int x1, .int x2, .int x3]) (rest := []) C mX11_138 (kX6_addDeed N h_5 a_7 x1 x2 x3) q_10 (Nat.le_of_ble_eq_true rfl) ⟨Nat.zero_le _, Nat.zero_le _⟩ dX11_deed_40 rfl rfl (Nat.le_of_ble_eq_true rfl)) rfl (fun v_9 h_8 => ?_)
          exact z_ireturn C ⟨rfl, rfl⟩ dX11_deed_43
        · refine z_bipush (v := (-2 : Int32)) C dX11_deed_30 rfl ?_
          exact z_ireturn C ⟨rfl, rfl⟩ dX11_deed_32
  · refine z_iconst (v := (-1 : Int32)) C dX11_deed_11 rfl ?_
    exact z_ireturn C ⟨rfl, rfl⟩ dX11_deed_12
def fX11_footman (N : Nat) (h : AH) (a0 : Nat) (x1 : Int32) : Option (Int32 × AH) :=
  zcall (fX11_isSet N h x1) fun v_2 h_1 =>
  (if v_2 = (0) then
  some ((-2 : Int32), h_1)
  else
  (zgR h_1 a0 11 0).bind fun a_3 =>
  (zis h_1 a_3 6).bind fun _ =>
  zcall (fX6_addFootman N h_1 a_3 x1) fun v_5 h_4 =>
  some (v_5, h_4))
theorem kX11_footman {l : Launch} {g : zG} (N : Nat) (h : AH) (a0 : Nat) (x1 : Int32) : zM l g yX11_footman cX11_footman 2 (some .int) (2) 0 0 (fun v : Int32 => some (.int v)) (fX11_footman N h a0 x1) h [.ref a0, .int x1] := by
  refine zM.of (lv0 := [(0, .ref a0), (1, .int x1)]) (by decide) (Nat.le_of_ble_eq_true rfl) rfl (fun X hX C => ?_)
  subst hX
  unfold fX11_footman
  refine z_iload_n C 1 dX11_footman_0 rfl ?_
  refine z_calli (z_runS (As := [.int x1]) (rest := []) C mX11_135 (kX11_isSet N h x1) (Nat.le_of_ble_eq_true rfl) ⟨Nat.zero_le _, Nat.zero_le _⟩ dX11_footman_1 rfl rfl (Nat.le_of_ble_eq_true rfl)) rfl (fun v_2 h_1 => ?_)
  refine z_ifeq C 18 dX11_footman_4 rfl ?_ ?_
  · refine z_bipush (v := (-2 : Int32)) C dX11_footman_18 rfl ?_
    exact z_ireturn C ⟨rfl, rfl⟩ dX11_footman_20
  · refine z_aload_n C 0 dX11_footman_7 rfl ?_
    refine z_getR C qX11_12 dX11_footman_8 (fun a_3 => ?_)
    refine z_iload_n C 1 dX11_footman_11 rfl ?_
    refine z_bind (fun _ q_6 => ?_)
    refine z_calli (z_runV (As := [.int x1]) (rest := []) C mX11_142 (kX6_addFootman N h_1 a_3 x1) q_6 (Nat.le_of_ble_eq_true rfl) ⟨Nat.zero_le _, Nat.zero_le _⟩ dX11_footman_12 rfl rfl (Nat.le_of_ble_eq_true rfl)) rfl (fun v_5 h_4 => ?_)
    refine z_goto C 20 dX11_footman_15 rfl ?_
    exact z_ireturn C ⟨rfl, rfl⟩ dX11_footman_20
def bX11_out_33 (N : Nat) (h : AH) (a0 : Nat) (x2 : Int32) (x3 : Int32) (s0 : Int32) : Option (Int32 × AH) :=
  (zgR h a0 11 0).bind fun a_1 =>
  (if x2 = (0) then
  (zgR h a0 11 0).bind fun a_2 =>
  (zgI h a_2 6 11).bind fun v_3 =>
  (zput h a_1 6 11 (.int (v_3 &&& (x3 ^^^ (-1 : Int32))))).bind fun h_4 =>
  some (s0, h_4)
  else
  (zgR h a0 11 0).bind fun a_5 =>
  (zgI h a_5 6 11).bind fun v_6 =>
  (zput h a_1 6 11 (.int (v_6 ||| x3))).bind fun h_7 =>
  some (s0, h_7))
theorem tX11_out_33 {X : zX} {g : zG} (C : zC X g yX11_out cX11_out 5 2 0 0 (some .int)) (N : Nat) (h : AH) (a0 : Nat) (x2 : Int32) (x3 : Int32) (s0 : Int32) : ZZ X g 5 (0, 0, 0, 0) (fun v : Int32 => some (.int v)) (bX11_out_33 N h a0 x2 x3 s0) h 33 [(0, .ref a0), (2, .int x2), (3, .int x3)] [.int s0] := by
  unfold bX11_out_33
  refine z_istore C dX11_out_33 [(4, .int s0), (0, .ref a0), (2, .int x2), (3, .int x3)] (by decide) rfl ?_
  refine z_aload_n C 1 dX11_out_35 rfl ?_
  refine z_getR C qX11_12 dX11_out_36 (fun a_1 => ?_)
  refine z_iload_n C 2 dX11_out_39 rfl ?_
  refine z_ifeq C 55 dX11_out_40 rfl ?_ ?_
  · refine z_aload_n C 1 dX11_out_55 rfl ?_
    refine z_getR C qX11_12 dX11_out_56 (fun a_2 => ?_)
    refine z_getI C qX11_151 dX11_out_59 (fun v_3 => ?_)
    refine z_iload_n C 3 dX11_out_62 rfl ?_
    refine z_iconst (v := (-1 : Int32)) C dX11_out_63 rfl ?_
    refine z_ixor C dX11_out_64 ?_
    refine z_iand C dX11_out_65 ?_
    refine z_putI C pX11_151 dX11_out_66 (fun h_4 => ?_)
    refine z_iload C 0 dX11_out_69 rfl ?_
    exact z_ireturn C ⟨rfl, rfl⟩ dX11_out_71
  · refine z_aload_n C 1 dX11_out_43 rfl ?_
    refine z_getR C qX11_12 dX11_out_44 (fun a_5 => ?_)
    refine z_getI C qX11_151 dX11_out_47 (fun v_6 => ?_)
    refine z_iload_n C 3 dX11_out_50 rfl ?_
    refine z_ior C dX11_out_51 ?_
    refine z_goto C 66 dX11_out_52 rfl ?_
    refine z_putI C pX11_151 dX11_out_66 (fun h_7 => ?_)
    refine z_iload C 0 dX11_out_69 rfl ?_
    exact z_ireturn C ⟨rfl, rfl⟩ dX11_out_71
def fX11_out (N : Nat) (h : AH) (a0 : Nat) (x1 : Int32) (x2 : Int32) : Option (Int32 × AH) :=
  (zgR h a0 11 0).bind fun a_1 =>
  (zis h a_1 6).bind fun _ =>
  zcall (fX6_hasFootman N h a_1 x1) fun v_3 h_2 =>
  (if v_3 = (0) then
  some ((-1 : Int32), h_2)
  else
  znm ((1 : Int32) <<< (x1 &&& 31)) fun y_5 =>
  (zgR h_2 a0 11 0).bind fun a_6 =>
  (zis h_2 a_6 6).bind fun _ =>
  zcall (fX6_isOut N h_2 a_6 x1) fun v_8 h_7 =>
  (if v_8 = (0) then
  bX11_out_33 N h_7 a0 x2 y_5 (0 : Int32)
  else
  bX11_out_33 N h_7 a0 x2 y_5 (1 : Int32)))
theorem kX11_out {l : Launch} {g : zG} (N : Nat) (h : AH) (a0 : Nat) (x1 : Int32) (x2 : Int32) : zM l g yX11_out cX11_out 5 (some .int) (2) 0 0 (fun v : Int32 => some (.int v)) (fX11_out N h a0 x1 x2) h [.ref a0, .int x1, .int x2] := by
  refine zM.of (lv0 := [(0, .ref a0), (1, .int x1), (2, .int x2)]) (by decide) (Nat.le_of_ble_eq_true rfl) rfl (fun X hX C => ?_)
  subst hX
  unfold fX11_out
  refine z_aload_n C 0 dX11_out_0 rfl ?_
  refine z_getR C qX11_12 dX11_out_1 (fun a_1 => ?_)
  refine z_iload_n C 1 dX11_out_4 rfl ?_
  refine z_bind (fun _ q_4 => ?_)
  refine z_calli (z_runV (As := [.int x1]) (rest := []) C mX11_145 (kX6_hasFootman N h a_1 x1) q_4 (Nat.le_of_ble_eq_true rfl) ⟨Nat.zero_le _, Nat.zero_le _⟩ dX11_out_5 rfl rfl (Nat.le_of_ble_eq_true rfl)) rfl (fun v_3 h_2 => ?_)
  refine z_ifne C 13 dX11_out_8 rfl ?_ ?_
  · refine z_iconst (v := (1 : Int32)) C dX11_out_13 rfl ?_
    refine z_iload_n C 1 dX11_out_14 rfl ?_
    refine z_ishl C dX11_out_15 ?_
    refine z_nmI (fun y_5 => ?_)
    refine z_istore_n C dX11_out_16 [(3, .int y_5), (0, .ref a0), (1, .int x1), (2, .int x2)] (by decide) rfl ?_
    refine z_aload_n C 1 dX11_out_17 rfl ?_
    refine z_getR C qX11_12 dX11_out_18 (fun a_6 => ?_)
    refine z_iload_n C 2 dX11_out_21 rfl ?_
    refine z_bind (fun _ q_9 => ?_)
    refine z_calli (z_runV (As := [.int x1]) (rest := []) C mX11_148 (kX6_isOut N h_2 a_6 x1) q_9 (Nat.le_of_ble_eq_true rfl) ⟨Nat.zero_le _, Nat.zero_le _⟩ dX11_out_22 rfl rfl (Nat.le_of_ble_eq_true rfl)) rfl (fun v_8 h_7 => ?_)
    refine z_ifeq C 32 dX11_out_25 rfl ?_ ?_
    · refine z_iconst (v := (0 : Int32)) C dX11_out_32 rfl ?_
      exact z_lv _ [1, 3, 0] rfl (tX11_out_33 C N _ a0 x2 y_5 (0 : Int32))
    · refine z_iconst (v := (1 : Int32)) C dX11_out_28 rfl ?_
      refine z_goto C 33 dX11_out_29 rfl ?_
      exact z_lv _ [1, 3, 0] rfl (tX11_out_33 C N _ a0 x2 y_5 (1 : Int32))
  · refine z_iconst (v := (-1 : Int32)) C dX11_out_11 rfl ?_
    exact z_ireturn C ⟨rfl, rfl⟩ dX11_out_12
def fX11_lost (N : Nat) (h : AH) (a0 : Nat) (x1 : Int32) : Option (Int32 × AH) :=
  (zgR h a0 11 0).bind fun a_1 =>
  (zis h a_1 6).bind fun _ =>
  zcall (fX6_hasFootman N h a_1 x1) fun v_3 h_2 =>
  (if v_3 = (0) then
  some ((-1 : Int32), h_2)
  else
  (zgR h_2 a0 11 0).bind fun a_5 =>
  (zis h_2 a_5 6).bind fun _ =>
  zcall (fX6_lostWith N h_2 a_5 x1) fun v_7 h_6 =>
  some (v_7, h_6))
theorem kX11_lost {l : Launch} {g : zG} (N : Nat) (h : AH) (a0 : Nat) (x1 : Int32) : zM l g yX11_lost cX11_lost 2 (some .int) (4) 0 0 (fun v : Int32 => some (.int v)) (fX11_lost N h a0 x1) h [.ref a0, .int x1] := by
  refine zM.of (lv0 := [(0, .ref a0), (1, .int x1)]) (by decide) (Nat.le_of_ble_eq_true rfl) rfl (fun X hX C => ?_)
  subst hX
  unfold fX11_lost
  refine z_aload_n C 0 dX11_lost_0 rfl ?_
  refine z_getR C qX11_12 dX11_lost_1 (fun a_1 => ?_)
  refine z_iload_n C 1 dX11_lost_4 rfl ?_
  refine z_bind (fun _ q_4 => ?_)
  refine z_calli (z_runV (As := [.int x1]) (rest := []) C mX11_145 (kX6_hasFootman N h a_1 x1) q_4 (Nat.le_of_ble_eq_true rfl) ⟨Nat.zero_le _, Nat.zero_le _⟩ dX11_lost_5 rfl rfl (Nat.le_of_ble_eq_true rfl)) rfl (fun v_3 h_2 => ?_)
  refine z_ifeq C 22 dX11_lost_8 rfl ?_ ?_
  · refine z_iconst (v := (-1 : Int32)) C dX11_lost_22 rfl ?_
    exact z_ireturn C ⟨rfl, rfl⟩ dX11_lost_23
  · refine z_aload_n C 0 dX11_lost_11 rfl ?_
    refine z_getR C qX11_12 dX11_lost_12 (fun a_5 => ?_)
    refine z_iload_n C 1 dX11_lost_15 rfl ?_
    refine z_bind (fun _ q_8 => ?_)
    refine z_calli (z_runV (As := [.int x1]) (rest := []) C mX11_154 (kX6_lostWith N h_2 a_5 x1) q_8 (Nat.le_of_ble_eq_true rfl) ⟨Nat.zero_le _, Nat.zero_le _⟩ dX11_lost_16 rfl rfl (Nat.le_of_ble_eq_true rfl)) rfl (fun v_7 h_6 => ?_)
    refine z_goto C 23 dX11_lost_19 rfl ?_
    exact z_ireturn C ⟨rfl, rfl⟩ dX11_lost_23
def fX11_row (N : Nat) (h : AH) (a0 : Nat) (x1 : Int32) (x2 : Int32) (x3 : Int32) : Option (Int32 × AH) :=
  (zgR h a0 11 0).bind fun a_1 =>
  (zis h a_1 6).bind fun _ =>
  zcall (fX6_hasMaster N h a_1 x1) fun v_3 h_2 =>
  (if v_3 = (0) then
  some ((-1 : Int32), h_2)
  else
  (if x2 < (0) then
  some ((-1 : Int32), h_2)
  else
  (if x2 < (4 : Int32) then
  (if x3 < (0) then
  some ((-2 : Int32), h_2)
  else
  (if x3 ≤ (9 : Int32) then
  (zgR h_2 a0 11 0).bind fun a_5 =>
  (zgR h_2 a_5 6 1).bind fun a_6 =>
  (zald 0 h_2 a_6 x1).bind fun v_7 =>
  (if v_7 = (6 : Int32) then
  znm ((x1 * (4 : Int32)) + x2) fun y_8 =>
  (zgR h_2 a0 11 0).bind fun a_9 =>
  (zgR h_2 a_9 6 4).bind fun a_10 =>
  (zald 0 h_2 a_10 y_8).bind fun v_11 =>
  (zgR h_2 a0 11 0).bind fun a_12 =>
  (zgR h_2 a_12 6 4).bind fun a_13 =>
  (zast 0 h_2 a_13 y_8 x3).bind fun h_14 =>
  some (v_11, h_14)
  else
  some ((-3 : Int32), h_2))
  else
  some ((-2 : Int32), h_2)))
  else
  some ((-1 : Int32), h_2))))
theorem kX11_row {l : Launch} {g : zG} (N : Nat) (h : AH) (a0 : Nat) (x1 : Int32) (x2 : Int32) (x3 : Int32) : zM l g yX11_row cX11_row 6 (some .int) (2) 0 0 (fun v : Int32 => some (.int v)) (fX11_row N h a0 x1 x2 x3) h [.ref a0, .int x1, .int x2, .int x3] := by
  refine zM.of (lv0 := [(0, .ref a0), (1, .int x1), (2, .int x2), (3, .int x3)]) (by decide) (Nat.le_of_ble_eq_true rfl) rfl (fun X hX C => ?_)
  subst hX
  unfold fX11_row
  refine z_aload_n C 0 dX11_row_0 rfl ?_
  refine z_getR C qX11_12 dX11_row_1 (fun a_1 => ?_)
  refine z_iload_n C 1 dX11_row_4 rfl ?_
  refine z_bind (fun _ q_4 => ?_)
  refine z_calli (z_runV (As := [.int x1]) (rest := []) C mX11_97 (kX6_hasMaster N h a_1 x1) q_4 (Nat.le_of_ble_eq_true rfl) ⟨Nat.zero_le _, Nat.zero_le _⟩ dX11_row_5 rfl rfl (Nat.le_of_ble_eq_true rfl)) rfl (fun v_3 h_2 => ?_)
  refine z_ifeq C 20 dX11_row_8 rfl ?_ ?_
  · refine z_iconst (v := (-1 : Int32)) C dX11_row_20 rfl ?_
    exact z_ireturn C ⟨rfl, rfl⟩ dX11_row_21
  · refine z_iload_n C 2 dX11_row_11 rfl ?_
    refine z_iflt C 20 dX11_row_12 rfl ?_ ?_
    · refine z_iconst (v := (-1 : Int32)) C dX11_row_20 rfl ?_
      exact z_ireturn C ⟨rfl, rfl⟩ dX11_row_21
    · refine z_iload_n C 2 dX11_row_15 rfl ?_
      refine z_iconst (v := (4 : Int32)) C dX11_row_16 rfl ?_
      refine z_icmplt C 22 dX11_row_17 rfl ?_ ?_
      · refine z_iload_n C 3 dX11_row_22 rfl ?_
        refine z_iflt C 32 dX11_row_23 rfl ?_ ?_
        · refine z_bipush (v := (-2 : Int32)) C dX11_row_32 rfl ?_
          exact z_ireturn C ⟨rfl, rfl⟩ dX11_row_34
        · refine z_iload_n C 3 dX11_row_26 rfl ?_
          refine z_bipush (v := (9 : Int32)) C dX11_row_27 rfl ?_
          refine z_icmple C 35 dX11_row_29 rfl ?_ ?_
          · refine z_aload_n C 0 dX11_row_35 rfl ?_
            refine z_getR C qX11_12 dX11_row_36 (fun a_5 => ?_)
            refine z_getR C qX11_104 dX11_row_39 (fun a_6 => ?_)
            refine z_iload_n C 1 dX11_row_42 rfl ?_
            refine z_iaload C dX11_row_43 (fun v_7 => ?_)
            refine z_bipush (v := (6 : Int32)) C dX11_row_44 rfl ?_
            refine z_icmpeq C 52 dX11_row_46 rfl ?_ ?_
            · refine z_iload_n C 1 dX11_row_52 rfl ?_
              refine z_iconst (v := (4 : Int32)) C dX11_row_53 rfl ?_
              refine z_imul C dX11_row_54 ?_
              refine z_iload_n C 2 dX11_row_55 rfl ?_
              refine z_iadd C dX11_row_56 ?_
              refine z_nmI (fun y_8 => ?_)
              refine z_istore C dX11_row_57 [(4, .int y_8), (0, .ref a0), (1, .int x1), (2, .int x2), (3, .int x3)] (by decide) rfl ?_
              refine z_aload_n C 1 dX11_row_59 rfl ?_
              refine z_getR C qX11_12 dX11_row_60 (fun a_9 => ?_)
              refine z_getR C qX11_157 dX11_row_63 (fun a_10 => ?_)
              refine z_iload C 0 dX11_row_66 rfl ?_
              refine z_iaload C dX11_row_68 (fun v_11 => ?_)
              refine z_istore C dX11_row_69 [(5, .int v_11), (4, .int y_8), (0, .ref a0), (1, .int x1), (2, .int x2), (3, .int x3)] (by decide) rfl ?_
              refine z_aload_n C 2 dX11_row_71 rfl ?_
              refine z_getR C qX11_12 dX11_row_72 (fun a_12 => ?_)
              refine z_getR C qX11_157 dX11_row_75 (fun a_13 => ?_)
              refine z_iload C 1 dX11_row_78 rfl ?_
              refine z_iload_n C 5 dX11_row_80 rfl ?_
              refine z_iastore C dX11_row_81 (fun h_14 => ?_)
              refine z_iload C 0 dX11_row_82 rfl ?_
              exact z_ireturn C ⟨rfl, rfl⟩ dX11_row_84
            · refine z_bipush (v := (-3 : Int32)) C dX11_row_49 rfl ?_
              exact z_ireturn C ⟨rfl, rfl⟩ dX11_row_51
          · refine z_bipush (v := (-2 : Int32)) C dX11_row_32 rfl ?_
            exact z_ireturn C ⟨rfl, rfl⟩ dX11_row_34
      · refine z_iconst (v := (-1 : Int32)) C dX11_row_20 rfl ?_
        exact z_ireturn C ⟨rfl, rfl⟩ dX11_row_21
def fX11_feed (N : Nat) (h : AH) (a0 : Nat) (x1 : Int32) : Option (Int32 × AH) :=
  (if x1 < (0) then
  some ((-2 : Int32), h)
  else
  (if x1 ≤ (127 : Int32) then
  (zgI h a0 11 8).bind fun v_1 =>
  (if v_1 < (100 : Int32) then
  (zgR h a0 11 7).bind fun a_2 =>
  (zgI h a0 11 8).bind fun v_3 =>
  (zast 1 h a_2 v_3 (vp_nar .byte (x1.toInt8.toInt32))).bind fun h_4 =>
  (zgI h_4 a0 11 8).bind fun v_5 =>
  (zput h_4 a0 11 8 (.int (v_5 + (1 : Int32)))).bind fun h_6 =>
  (zgI h_6 a0 11 8).bind fun v_7 =>
  some (v_7, h_6)
  else
  some ((-4 : Int32), h))
  else
  some ((-2 : Int32), h)))
theorem kX11_feed {l : Launch} {g : zG} (N : Nat) (h : AH) (a0 : Nat) (x1 : Int32) : zM l g yX11_feed cX11_feed 2 (some .int) (1) 0 0 (fun v : Int32 => some (.int v)) (fX11_feed N h a0 x1) h [.ref a0, .int x1] := by
  refine zM.of (lv0 := [(0, .ref a0), (1, .int x1)]) (by decide) (Nat.le_of_ble_eq_true rfl) rfl (fun X hX C => ?_)
  subst hX
  unfold fX11_feed
  refine z_iload_n C 1 dX11_feed_0 rfl ?_
  refine z_iflt C 10 dX11_feed_1 rfl ?_ ?_
  · refine z_bipush (v := (-2 : Int32)) C dX11_feed_10 rfl ?_
    exact z_ireturn C ⟨rfl, rfl⟩ dX11_feed_12
  · refine z_iload_n C 1 dX11_feed_4 rfl ?_
    refine z_bipush (v := (127 : Int32)) C dX11_feed_5 rfl ?_
    refine z_icmple C 13 dX11_feed_7 rfl ?_ ?_
    · refine z_aload_n C 0 dX11_feed_13 rfl ?_
      refine z_getI C qX11_69 dX11_feed_14 (fun v_1 => ?_)
      refine z_bipush (v := (100 : Int32)) C dX11_feed_17 rfl ?_
      refine z_icmplt C 25 dX11_feed_19 rfl ?_ ?_
      · refine z_aload_n C 0 dX11_feed_25 rfl ?_
        refine z_getR C qX11_65 dX11_feed_26 (fun a_2 => ?_)
        refine z_aload_n C 0 dX11_feed_29 rfl ?_
        refine z_getI C qX11_69 dX11_feed_30 (fun v_3 => ?_)
        refine z_iload_n C 1 dX11_feed_33 rfl ?_
        refine z_i2b C dX11_feed_34 ?_
        refine z_bastore C dX11_feed_35 (fun h_4 => ?_)
        refine z_aload_n C 0 dX11_feed_36 rfl ?_
        refine z_dup C dX11_feed_37 rfl ?_
        refine z_getI C qX11_69 dX11_feed_38 (fun v_5 => ?_)
        refine z_iconst (v := (1 : Int32)) C dX11_feed_41 rfl ?_
        refine z_iadd C dX11_feed_42 ?_
        refine z_putI C pX11_69 dX11_feed_43 (fun h_6 => ?_)
        refine z_aload_n C 0 dX11_feed_46 rfl ?_
        refine z_getI C qX11_69 dX11_feed_47 (fun v_7 => ?_)
        exact z_ireturn C ⟨rfl, rfl⟩ dX11_feed_50
      · refine z_bipush (v := (-4 : Int32)) C dX11_feed_22 rfl ?_
        exact z_ireturn C ⟨rfl, rfl⟩ dX11_feed_24
    · refine z_bipush (v := (-2 : Int32)) C dX11_feed_10 rfl ?_
      exact z_ireturn C ⟨rfl, rfl⟩ dX11_feed_12
def fX11_dreamOfNow (N : Nat) (h : AH) (a0 : Nat) : Option (Unit × AH) :=
  (zgR h a0 11 0).bind fun a_1 =>
  (zgR h a_1 6 3).bind fun a_2 =>
  (zgR h a0 11 12).bind fun a_3 =>
  (zcopyI h a_2 (0 : Int32) a_3 (0 : Int32) (6 : Int32)).bind fun h_4 =>
  some ((), h_4)
theorem kX11_dreamOfNow {l : Launch} {g : zG} (N : Nat) (h : AH) (a0 : Nat) : zM l g yX11_dreamOfNow cX11_dreamOfNow 1 none (1) 0 0 (fun _ : Unit => none) (fX11_dreamOfNow N h a0) h [.ref a0] := by
  refine zM.of (lv0 := [(0, .ref a0)]) (by decide) (Nat.le_of_ble_eq_true rfl) rfl (fun X hX C => ?_)
  subst hX
  unfold fX11_dreamOfNow
  refine z_aload_n C 0 dX11_dreamOfNow_0 rfl ?_
  refine z_getR C qX11_12 dX11_dreamOfNow_1 (fun a_1 => ?_)
  refine z_getR C qX11_110 dX11_dreamOfNow_4 (fun a_2 => ?_)
  refine z_iconst (v := (0 : Int32)) C dX11_dreamOfNow_7 rfl ?_
  refine z_aload_n C 0 dX11_dreamOfNow_8 rfl ?_
  refine z_getR C qX11_89 dX11_dreamOfNow_9 (fun a_3 => ?_)
  refine z_iconst (v := (0 : Int32)) C dX11_dreamOfNow_12 rfl ?_
  refine z_bipush (v := (6 : Int32)) C dX11_dreamOfNow_13 rfl ?_
  refine z_copyI C w709 dX11_dreamOfNow_15 (Nat.le_of_ble_eq_true rfl) (by omega) (fun h_4 => ?_)
  exact z_return C ⟨rfl, rfl⟩ dX11_dreamOfNow_18
def bX11_tellDreamers_4 (N : Nat) (r4 : AH → Nat → Int32 → Int32 → Int32 → Option (Int32 × AH)) (h : AH) (a0 : Nat) (x1 : Int32) (x2 : Int32) (x3 : Int32) : Option (Int32 × AH) :=
  (zgR h a0 11 0).bind fun a_1 =>
  (zgI h a_1 6 0).bind fun v_2 =>
  (if v_2 ≤ x3 then
  some (x2, h)
  else
  (zgR h a0 11 0).bind fun a_3 =>
  (zis h a_3 6).bind fun _ =>
  zcall (fX6_takenBy N h a_3 x3 x1) fun v_5 h_4 =>
  (zgR h_4 a0 11 12).bind fun a_7 =>
  (zald 0 h_4 a_7 x3).bind fun v_8 =>
  znm (v_5 &&& (v_8 ^^^ (-1 : Int32))) fun y_9 =>
  zcall (fJ6_bitCount_0f7a4 N h_4 y_9) fun v_11 h_10 =>
  znm (x2 + v_11) fun y_12 =>
  (zgR h_10 a0 11 12).bind fun a_13 =>
  (zald 0 h_10 a_13 x3).bind fun v_14 =>
  (zast 0 h_10 a_13 x3 (v_14 ||| y_9)).bind fun h_15 =>
  r4 h_15 a0 x1 y_12 (x3 + (1 : Int32)))
theorem tX11_tellDreamers_4 {X : zX} {g : zG} (C : zC X g yX11_tellDreamers cX11_tellDreamers 5 2 0 0 (some .int)) (N : Nat) (n : Nat) : ∀ (h : AH) (a0 : Nat) (x1 : Int32) (x2 : Int32) (x3 : Int32), ZZ X g 5 (0, 0, 0, 0) (fun v : Int32 => some (.int v)) (zfix (fun _ _ _ _ _ => none) (bX11_tellDreamers_4 N) n h a0 x1 x2 x3) h 4 [(0, .ref a0), (1, .int x1), (2, .int x2), (3, .int x3)] [] := by
  induction n with
  | zero => intro h a0 x1 x2 x3; exact z_none
  | succ n hr4 =>
    intro h a0 x1 x2 x3
    show ZZ X g 5 (0, 0, 0, 0) _ (bX11_tellDreamers_4 N (zfix (fun _ _ _ _ _ => none) (bX11_tellDreamers_4 N) n) h a0 x1 x2 x3) h 4 _ _
    unfold bX11_tellDreamers_4
    refine z_iload_n C 3 dX11_tellDreamers_4 rfl ?_
    refine z_aload_n C 0 dX11_tellDreamers_5 rfl ?_
    refine z_getR C qX11_12 dX11_tellDreamers_6 (fun a_1 => ?_)
    refine z_getI C qX11_240 dX11_tellDreamers_9 (fun v_2 => ?_)
    refine z_icmpge C 60 dX11_tellDreamers_12 rfl ?_ ?_
    · refine z_iload_n C 2 dX11_tellDreamers_60 rfl ?_
      exact z_ireturn C ⟨rfl, rfl⟩ dX11_tellDreamers_61
    · refine z_aload_n C 0 dX11_tellDreamers_15 rfl ?_
      refine z_getR C qX11_12 dX11_tellDreamers_16 (fun a_3 => ?_)
      refine z_iload_n C 3 dX11_tellDreamers_19 rfl ?_
      refine z_iload_n C 1 dX11_tellDreamers_20 rfl ?_
      refine z_bind (fun _ q_6 => ?_)
      refine z_calli (z_runV (As := [.int x3, .int x1]) (rest := []) C mX11_352 (kX6_takenBy N h a_3 x3 x1) q_6 (Nat.le_of_ble_eq_true rfl) ⟨Nat.zero_le _, Nat.zero_le _⟩ dX11_tellDreamers_21 rfl rfl (Nat.le_of_ble_eq_true rfl)) rfl (fun v_5 h_4 => ?_)
      refine z_aload_n C 0 dX11_tellDreamers_24 rfl ?_
      refine z_getR C qX11_89 dX11_tellDreamers_25 (fun a_7 => ?_)
      refine z_iload_n C 3 dX11_tellDreamers_28 rfl ?_
      refine z_iaload C dX11_tellDreamers_29 (fun v_8 => ?_)
      refine z_iconst (v := (-1 : Int32)) C dX11_tellDreamers_30 rfl ?_
      refine z_ixor C dX11_tellDreamers_31 ?_
      refine z_iand C dX11_tellDreamers_32 ?_
      refine z_nmI (fun y_9 => ?_)
      refine z_istore C dX11_tellDreamers_33 [(4, .int y_9), (0, .ref a0), (1, .int x1), (2, .int x2), (3, .int x3)] (by decide) rfl ?_
      refine z_iload_n C 3 dX11_tellDreamers_35 rfl ?_
      refine z_iload C 0 dX11_tellDreamers_36 rfl ?_
      refine z_calli (z_runS (As := [.int y_9]) (rest := [.int x2]) C mX11_226 (kJ6_bitCount_0f7a4 N h_4 y_9) (Nat.le_of_ble_eq_true rfl) ⟨Nat.zero_le _, Nat.zero_le _⟩ dX11_tellDreamers_38 rfl rfl (Nat.le_of_ble_eq_true rfl)) rfl (fun v_11 h_10 => ?_)
      refine z_iadd C dX11_tellDreamers_41 ?_
      refine z_nmI (fun y_12 => ?_)
      refine z_istore_n C dX11_tellDreamers_42 [(2, .int y_12), (4, .int y_9), (0, .ref a0), (1, .int x1), (3, .int x3)] (by decide) rfl ?_
      refine z_aload_n C 2 dX11_tellDreamers_43 rfl ?_
      refine z_getR C qX11_89 dX11_tellDreamers_44 (fun a_13 => ?_)
      refine z_iload_n C 4 dX11_tellDreamers_47 rfl ?_
      refine z_dup2 C dX11_tellDreamers_48 rfl rfl ?_
      refine z_iaload C dX11_tellDreamers_49 (fun v_14 => ?_)
      refine z_iload C 1 dX11_tellDreamers_50 rfl ?_
      refine z_ior C dX11_tellDreamers_52 ?_
      refine z_iastore C dX11_tellDreamers_53 (fun h_15 => ?_)
      refine z_iinc (v := x3 + (1 : Int32)) C 4 dX11_tellDreamers_54 [(3, .int (x3 + (1 : Int32))), (2, .int y_12), (4, .int y_9), (0, .ref a0), (1, .int x1)] rfl rfl (by decide) rfl ?_
      refine z_goto C 4 dX11_tellDreamers_57 rfl ?_
      exact z_lv _ [3, 4, 1, 0] rfl (hr4 _ a0 x1 y_12 (x3 + (1 : Int32)))
def fX11_tellDreamers (N : Nat) (h : AH) (a0 : Nat) (x1 : Int32) : Option (Int32 × AH) :=
  zfix (fun _ _ _ _ _ => none) (bX11_tellDreamers_4 N) N h a0 x1 (0 : Int32) (0 : Int32)
theorem kX11_tellDreamers {l : Launch} {g : zG} (N : Nat) (h : AH) (a0 : Nat) (x1 : Int32) : zM l g yX11_tellDreamers cX11_tellDreamers 5 (some .int) (2) 0 0 (fun v : Int32 => some (.int v)) (fX11_tellDreamers N h a0 x1) h [.ref a0, .int x1] := by
  refine zM.of (lv0 := [(0, .ref a0), (1, .int x1)]) (by decide) (Nat.le_of_ble_eq_true rfl) rfl (fun X hX C => ?_)
  subst hX
  unfold fX11_tellDreamers
  refine z_iconst (v := (0 : Int32)) C dX11_tellDreamers_0 rfl ?_
  refine z_istore_n C dX11_tellDreamers_1 [(2, .int (0 : Int32)), (0, .ref a0), (1, .int x1)] (by decide) rfl ?_
  refine z_iconst (v := (0 : Int32)) C dX11_tellDreamers_2 rfl ?_
  refine z_istore_n C dX11_tellDreamers_3 [(3, .int (0 : Int32)), (2, .int (0 : Int32)), (0, .ref a0), (1, .int x1)] (by decide) rfl ?_
  exact z_lv _ [2, 3, 1, 0] rfl (tX11_tellDreamers_4 C N N _ a0 x1 (0 : Int32) (0 : Int32))
def fX11_tellingsNow (N : Nat) (h : AH) (a0 : Nat) : Option (Int32 × AH) :=
  (zis h a0 11).bind fun _ =>
  zcall (fX11_dreamOfNow N h a0) fun _ h_1 =>
  (zis h_1 a0 11).bind fun _ =>
  zcall (fX11_tellDreamers N h_1 a0 (-1 : Int32)) fun v_4 h_3 =>
  some (v_4, h_3)
theorem kX11_tellingsNow {l : Launch} {g : zG} (N : Nat) (h : AH) (a0 : Nat) : zM l g yX11_tellingsNow cX11_tellingsNow 1 (some .int) (3) 0 0 (fun v : Int32 => some (.int v)) (fX11_tellingsNow N h a0) h [.ref a0] := by
  refine zM.of (lv0 := [(0, .ref a0)]) (by decide) (Nat.le_of_ble_eq_true rfl) rfl (fun X hX C => ?_)
  subst hX
  unfold fX11_tellingsNow
  refine z_aload_n C 0 dX11_tellingsNow_0 rfl ?_
  refine z_bind (fun _ q_2 => ?_)
  refine z_callv (z_runV (As := []) (rest := []) C mX11_199 (kX11_dreamOfNow N h a0) q_2 (Nat.le_of_ble_eq_true rfl) ⟨Nat.zero_le _, Nat.zero_le _⟩ dX11_tellingsNow_1 rfl rfl (Nat.le_of_ble_eq_true rfl)) rfl (fun _ h_1 => ?_)
  refine z_aload_n C 0 dX11_tellingsNow_4 rfl ?_
  refine z_iconst (v := (-1 : Int32)) C dX11_tellingsNow_5 rfl ?_
  refine z_bind (fun _ q_5 => ?_)
  refine z_calli (z_runV (As := [.int (-1 : Int32)]) (rest := []) C mX11_349 (kX11_tellDreamers N h_1 a0 (-1 : Int32)) q_5 (Nat.le_of_ble_eq_true rfl) ⟨Nat.zero_le _, Nat.zero_le _⟩ dX11_tellingsNow_6 rfl rfl (Nat.le_of_ble_eq_true rfl)) rfl (fun v_4 h_3 => ?_)
  exact z_ireturn C ⟨rfl, rfl⟩ dX11_tellingsNow_9
def bX11_sleep_12 (N : Nat) (r3 : AH → Nat → Nat → Int32 → Int32 → Int32 → Option (Unit × AH)) (r12 : AH → Nat → Nat → Int32 → Int32 → Int32 → Int32 → Option (Unit × AH)) (h : AH) (a0 : Nat) (a1 : Nat) (x2 : Int32) (x3 : Int32) (x4 : Int32) (x5 : Int32) : Option (Unit × AH) :=
  (zgR h a0 11 0).bind fun a_1 =>
  (zgI h a_1 6 0).bind fun v_2 =>
  (if v_2 ≤ x5 then
  r3 h a0 a1 x2 x3 (x4 + (1 : Int32))
  else
  (zgR h a0 11 0).bind fun a_3 =>
  (zgR h a_3 6 2).bind fun a_4 =>
  (zald 0 h a_4 x5).bind fun v_5 =>
  (zald 0 h a1 x5).bind fun v_6 =>
  (zis h a0 11).bind fun _ =>
  zcall (fX11_keptInNight N h a0 x5 v_5 (x2 + x4) v_6) fun v_8 h_7 =>
  (zast 0 h_7 a1 x5 v_8).bind fun h_10 =>
  r12 h_10 a0 a1 x2 x3 x4 (x5 + (1 : Int32)))
theorem tX11_sleep_12 {X : zX} {g : zG} (C : zC X g yX11_sleep cX11_sleep 6 6 0 0 none) (N : Nat) {r3 : AH → Nat → Nat → Int32 → Int32 → Int32 → Option (Unit × AH)} (hr3 : ∀ (h : AH) (a0 : Nat) (a1 : Nat) (x2 : Int32) (x3 : Int32) (x4 : Int32), ZZ X g 6 (0, 0, 0, 0) (fun _ : Unit => none) (r3 h a0 a1 x2 x3 x4) h 3 [(0, .ref a0), (1, .ref a1), (2, .int x2), (3, .int x3), (4, .int x4)] []) (n : Nat) : ∀ (h : AH) (a0 : Nat) (a1 : Nat) (x2 : Int32) (x3 : Int32) (x4 : Int32) (x5 : Int32), ZZ X g 6 (0, 0, 0, 0) (fun _ : Unit => none) (zfix (fun _ _ _ _ _ _ _ => none) (bX11_sleep_12 N r3) n h a0 a1 x2 x3 x4 x5) h 12 [(0, .ref a0), (1, .ref a1), (2, .int x2), (3, .int x3), (4, .int x4), (5, .int x5)] [] := by
  induction n with
  | zero => intro h a0 a1 x2 x3 x4 x5; exact z_none
  | succ n hr12 =>
    intro h a0 a1 x2 x3 x4 x5
    show ZZ X g 6 (0, 0, 0, 0) _ (bX11_sleep_12 N r3 (zfix (fun _ _ _ _ _ _ _ => none) (bX11_sleep_12 N r3) n) h a0 a1 x2 x3 x4 x5) h 12 _ _
    unfold bX11_sleep_12
    refine z_iload C 5 dX11_sleep_12 rfl ?_
    refine z_aload_n C 0 dX11_sleep_14 rfl ?_
    refine z_getR C qX11_12 dX11_sleep_15 (fun a_1 => ?_)
    refine z_getI C qX11_240 dX11_sleep_18 (fun v_2 => ?_)
    refine z_icmpge C 58 dX11_sleep_21 rfl ?_ ?_
    · refine z_iinc (v := x4 + (1 : Int32)) C 4 dX11_sleep_58 [(4, .int (x4 + (1 : Int32))), (0, .ref a0), (1, .ref a1), (2, .int x2), (3, .int x3), (5, .int x5)] rfl rfl (by decide) rfl ?_
      refine z_goto C 3 dX11_sleep_61 rfl ?_
      exact z_lv _ [1, 2, 3, 4, 0] rfl (hr3 _ a0 a1 x2 x3 (x4 + (1 : Int32)))
    · refine z_aload_n C 1 dX11_sleep_24 rfl ?_
      refine z_iload C 5 dX11_sleep_25 rfl ?_
      refine z_aload_n C 0 dX11_sleep_27 rfl ?_
      refine z_iload C 5 dX11_sleep_28 rfl ?_
      refine z_aload_n C 0 dX11_sleep_30 rfl ?_
      refine z_getR C qX11_12 dX11_sleep_31 (fun a_3 => ?_)
      refine z_getR C qX11_107 dX11_sleep_34 (fun a_4 => ?_)
      refine z_iload C 5 dX11_sleep_37 rfl ?_
      refine z_iaload C dX11_sleep_39 (fun v_5 => ?_)
      refine z_iload_n C 2 dX11_sleep_40 rfl ?_
      refine z_iload C 4 dX11_sleep_41 rfl ?_
      refine z_iadd C dX11_sleep_43 ?_
      refine z_aload_n C 1 dX11_sleep_44 rfl ?_
      refine z_iload C 5 dX11_sleep_45 rfl ?_
      refine z_iaload C dX11_sleep_47 (fun v_6 => ?_)
      refine z_bind (fun _ q_9 => ?_)
      refine z_calli (z_runV (As := [.int x5, .int v_5, .int (x2 + x4), .int v_6]) (rest := [.int x5, .ref a1]) C mX11_346 (kX11_keptInNight N h a0 x5 v_5 (x2 + x4) v_6) q_9 (Nat.le_of_ble_eq_true rfl) ⟨Nat.zero_le _, Nat.zero_le _⟩ dX11_sleep_48 rfl rfl (Nat.le_of_ble_eq_true rfl)) rfl (fun v_8 h_7 => ?_)
      refine z_iastore C dX11_sleep_51 (fun h_10 => ?_)
      refine z_iinc (v := x5 + (1 : Int32)) C 5 dX11_sleep_52 [(5, .int (x5 + (1 : Int32))), (0, .ref a0), (1, .ref a1), (2, .int x2), (3, .int x3), (4, .int x4)] rfl rfl (by decide) rfl ?_
      refine z_goto C 12 dX11_sleep_55 rfl ?_
      exact z_lv _ [1, 2, 3, 4, 5, 0] rfl (hr12 _ a0 a1 x2 x3 x4 (x5 + (1 : Int32)))
def bX11_sleep_3 (N : Nat) (r3 : AH → Nat → Nat → Int32 → Int32 → Int32 → Option (Unit × AH)) (h : AH) (a0 : Nat) (a1 : Nat) (x2 : Int32) (x3 : Int32) (x4 : Int32) : Option (Unit × AH) :=
  (if x3 ≤ x4 then
  some ((), h)
  else
  zfix (fun _ _ _ _ _ _ _ => none) (bX11_sleep_12 N r3) N h a0 a1 x2 x3 x4 (0 : Int32))
theorem tX11_sleep_3 {X : zX} {g : zG} (C : zC X g yX11_sleep cX11_sleep 6 6 0 0 none) (N : Nat) (n : Nat) : ∀ (h : AH) (a0 : Nat) (a1 : Nat) (x2 : Int32) (x3 : Int32) (x4 : Int32), ZZ X g 6 (0, 0, 0, 0) (fun _ : Unit => none) (zfix (fun _ _ _ _ _ _ => none) (bX11_sleep_3 N) n h a0 a1 x2 x3 x4) h 3 [(0, .ref a0), (1, .ref a1), (2, .int x2), (3, .int x3), (4, .int x4)] [] := by
  induction n with
  | zero => intro h a0 a1 x2 x3 x4; exact z_none
  | succ n hr3 =>
    intro h a0 a1 x2 x3 x4
    show ZZ X g 6 (0, 0, 0, 0) _ (bX11_sleep_3 N (zfix (fun _ _ _ _ _ _ => none) (bX11_sleep_3 N) n) h a0 a1 x2 x3 x4) h 3 _ _
    unfold bX11_sleep_3
    refine z_iload C 4 dX11_sleep_3 rfl ?_
    refine z_iload_n C 3 dX11_sleep_5 rfl ?_
    refine z_icmpge C 64 dX11_sleep_6 rfl ?_ ?_
    · exact z_return C ⟨rfl, rfl⟩ dX11_sleep_64
    · refine z_iconst (v := (0 : Int32)) C dX11_sleep_9 rfl ?_
      refine z_istore C dX11_sleep_10 [(5, .int (0 : Int32)), (0, .ref a0), (1, .ref a1), (2, .int x2), (3, .int x3), (4, .int x4)] (by decide) rfl ?_
      exact z_lv _ [1, 2, 3, 4, 5, 0] rfl (tX11_sleep_12 C N hr3 N _ a0 a1 x2 x3 x4 (0 : Int32))
def fX11_sleep (N : Nat) (h : AH) (a0 : Nat) (a1 : Nat) (x2 : Int32) (x3 : Int32) : Option (Unit × AH) :=
  zfix (fun _ _ _ _ _ _ => none) (bX11_sleep_3 N) N h a0 a1 x2 x3 (0 : Int32)
theorem kX11_sleep {l : Launch} {g : zG} (N : Nat) (h : AH) (a0 : Nat) (a1 : Nat) (x2 : Int32) (x3 : Int32) : zM l g yX11_sleep cX11_sleep 6 none (6) 0 0 (fun _ : Unit => none) (fX11_sleep N h a0 a1 x2 x3) h [.ref a0, .ref a1, .int x2, .int x3] := by
  refine zM.of (lv0 := [(0, .ref a0), (1, .ref a1), (2, .int x2), (3, .int x3)]) (by decide) (Nat.le_of_ble_eq_true rfl) rfl (fun X hX C => ?_)
  subst hX
  unfold fX11_sleep
  refine z_iconst (v := (0 : Int32)) C dX11_sleep_0 rfl ?_
  refine z_istore C dX11_sleep_1 [(4, .int (0 : Int32)), (0, .ref a0), (1, .ref a1), (2, .int x2), (3, .int x3)] (by decide) rfl ?_
  exact z_lv _ [1, 2, 3, 4, 0] rfl (tX11_sleep_3 C N N _ a0 a1 x2 x3 (0 : Int32))
def bX11_tellingsByDay_11 (N : Nat) (r11 : AH → Nat → Int32 → Int32 → Int32 → Int32 → Option (Int32 × AH)) (h : AH) (a0 : Nat) (x1 : Int32) (x2 : Int32) (x3 : Int32) (x4 : Int32) : Option (Int32 × AH) :=
  (if (20 : Int32) < x4 then
  (if x1 = (0) then
  some (x2, h)
  else
  some (x3, h))
  else
  (zis h a0 11).bind fun _ =>
  zcall (fX11_tellDreamers N h a0 x4) fun v_2 h_1 =>
  znm (x2 + v_2) fun y_4 =>
  znm (if x3 < v_2 then v_2 else x3) fun y_5 =>
  (zgR h_1 a0 11 12).bind fun a_6 =>
  (zgR h_1 a0 11 0).bind fun a_7 =>
  (zgI h_1 a_7 6 12).bind fun v_8 =>
  (zis h_1 a0 11).bind fun _ =>
  zcall (fX11_sleep N h_1 a0 a_6 (v_8 + x4) (1 : Int32)) fun _ h_9 =>
  r11 h_9 a0 x1 y_4 y_5 (x4 + (1 : Int32)))
theorem tX11_tellingsByDay_11 {X : zX} {g : zG} (C : zC X g yX11_tellingsByDay cX11_tellingsByDay 6 7 0 0 (some .int)) (N : Nat) (n : Nat) : ∀ (h : AH) (a0 : Nat) (x1 : Int32) (x2 : Int32) (x3 : Int32) (x4 : Int32), ZZ X g 6 (0, 0, 0, 0) (fun v : Int32 => some (.int v)) (zfix (fun _ _ _ _ _ _ => none) (bX11_tellingsByDay_11 N) n h a0 x1 x2 x3 x4) h 11 [(0, .ref a0), (1, .int x1), (2, .int x2), (3, .int x3), (4, .int x4)] [] := by
  induction n with
  | zero => intro h a0 x1 x2 x3 x4; exact z_none
  | succ n hr11 =>
    intro h a0 x1 x2 x3 x4
    show ZZ X g 6 (0, 0, 0, 0) _ (bX11_tellingsByDay_11 N (zfix (fun _ _ _ _ _ _ => none) (bX11_tellingsByDay_11 N) n) h a0 x1 x2 x3 x4) h 11 _ _
    unfold bX11_tellingsByDay_11
    refine z_iload C 4 dX11_tellingsByDay_11 rfl ?_
    refine z_bipush (v := (20 : Int32)) C dX11_tellingsByDay_13 rfl ?_
    refine z_icmpgt C 63 dX11_tellingsByDay_15 rfl ?_ ?_
    · refine z_iload_n C 1 dX11_tellingsByDay_63 rfl ?_
      refine z_ifeq C 71 dX11_tellingsByDay_64 rfl ?_ ?_
      · refine z_iload_n C 2 dX11_tellingsByDay_71 rfl ?_
        exact z_ireturn C ⟨rfl, rfl⟩ dX11_tellingsByDay_72
      · refine z_iload_n C 3 dX11_tellingsByDay_67 rfl ?_
        refine z_goto C 72 dX11_tellingsByDay_68 rfl ?_
        exact z_ireturn C ⟨rfl, rfl⟩ dX11_tellingsByDay_72
    · refine z_aload_n C 0 dX11_tellingsByDay_18 rfl ?_
      refine z_iload C 4 dX11_tellingsByDay_19 rfl ?_
      refine z_bind (fun _ q_3 => ?_)
      refine z_calli (z_runV (As := [.int x4]) (rest := []) C mX11_349 (kX11_tellDreamers N h a0 x4) q_3 (Nat.le_of_ble_eq_true rfl) ⟨Nat.zero_le _, Nat.zero_le _⟩ dX11_tellingsByDay_21 rfl rfl (Nat.le_of_ble_eq_true rfl)) rfl (fun v_2 h_1 => ?_)
      refine z_istore C dX11_tellingsByDay_24 [(5, .int v_2), (0, .ref a0), (1, .int x1), (2, .int x2), (3, .int x3), (4, .int x4)] (by decide) rfl ?_
      refine z_iload_n C 3 dX11_tellingsByDay_26 rfl ?_
      refine z_iload C 0 dX11_tellingsByDay_27 rfl ?_
      refine z_iadd C dX11_tellingsByDay_29 ?_
      refine z_nmI (fun y_4 => ?_)
      refine z_istore_n C dX11_tellingsByDay_30 [(2, .int y_4), (5, .int v_2), (0, .ref a0), (1, .int x1), (3, .int x3), (4, .int x4)] (by decide) rfl ?_
      refine z_iload_n C 4 dX11_tellingsByDay_31 rfl ?_
      refine z_iload C 1 dX11_tellingsByDay_32 rfl ?_
      refine z_mmax C mX11_355 dX11_tellingsByDay_34 (Nat.le_of_ble_eq_true rfl) (by omega) ⟨Nat.zero_le _, Nat.zero_le _⟩ ?_
      refine z_nmI (fun y_5 => ?_)
      refine z_istore_n C dX11_tellingsByDay_37 [(3, .int y_5), (2, .int y_4), (5, .int v_2), (0, .ref a0), (1, .int x1), (4, .int x4)] (by decide) rfl ?_
      refine z_aload_n C 3 dX11_tellingsByDay_38 rfl ?_
      refine z_aload_n C 3 dX11_tellingsByDay_39 rfl ?_
      refine z_getR C qX11_89 dX11_tellingsByDay_40 (fun a_6 => ?_)
      refine z_aload_n C 3 dX11_tellingsByDay_43 rfl ?_
      refine z_getR C qX11_12 dX11_tellingsByDay_44 (fun a_7 => ?_)
      refine z_getI C qX11_120 dX11_tellingsByDay_47 (fun v_8 => ?_)
      refine z_iload C 5 dX11_tellingsByDay_50 rfl ?_
      refine z_iadd C dX11_tellingsByDay_52 ?_
      refine z_iconst (v := (1 : Int32)) C dX11_tellingsByDay_53 rfl ?_
      refine z_bind (fun _ q_10 => ?_)
      refine z_callv (z_runV (As := [.ref a_6, .int (v_8 + x4), .int (1 : Int32)]) (rest := []) C mX11_192 (kX11_sleep N h_1 a0 a_6 (v_8 + x4) (1 : Int32)) q_10 (Nat.le_of_ble_eq_true rfl) ⟨Nat.zero_le _, Nat.zero_le _⟩ dX11_tellingsByDay_54 rfl rfl (Nat.le_of_ble_eq_true rfl)) rfl (fun _ h_9 => ?_)
      refine z_iinc (v := x4 + (1 : Int32)) C 5 dX11_tellingsByDay_57 [(4, .int (x4 + (1 : Int32))), (3, .int y_5), (2, .int y_4), (5, .int v_2), (0, .ref a0), (1, .int x1)] rfl rfl (by decide) rfl ?_
      refine z_goto C 11 dX11_tellingsByDay_60 rfl ?_
      exact z_lv _ [4, 5, 2, 1, 0] rfl (hr11 _ a0 x1 y_4 y_5 (x4 + (1 : Int32)))
def fX11_tellingsByDay (N : Nat) (h : AH) (a0 : Nat) (x1 : Int32) : Option (Int32 × AH) :=
  (zis h a0 11).bind fun _ =>
  zcall (fX11_dreamOfNow N h a0) fun _ h_1 =>
  zfix (fun _ _ _ _ _ _ => none) (bX11_tellingsByDay_11 N) N h_1 a0 x1 (0 : Int32) (0 : Int32) (0 : Int32)
theorem kX11_tellingsByDay {l : Launch} {g : zG} (N : Nat) (h : AH) (a0 : Nat) (x1 : Int32) : zM l g yX11_tellingsByDay cX11_tellingsByDay 6 (some .int) (7) 0 0 (fun v : Int32 => some (.int v)) (fX11_tellingsByDay N h a0 x1) h [.ref a0, .int x1] := by
  refine zM.of (lv0 := [(0, .ref a0), (1, .int x1)]) (by decide) (Nat.le_of_ble_eq_true rfl) rfl (fun X hX C => ?_)
  subst hX
  unfold fX11_tellingsByDay
  refine z_aload_n C 0 dX11_tellingsByDay_0 rfl ?_
  refine z_bind (fun _ q_2 => ?_)
  refine z_callv (z_runV (As := []) (rest := []) C mX11_199 (kX11_dreamOfNow N h a0) q_2 (Nat.le_of_ble_eq_true rfl) ⟨Nat.zero_le _, Nat.zero_le _⟩ dX11_tellingsByDay_1 rfl rfl (Nat.le_of_ble_eq_true rfl)) rfl (fun _ h_1 => ?_)
  refine z_iconst (v := (0 : Int32)) C dX11_tellingsByDay_4 rfl ?_
  refine z_istore_n C dX11_tellingsByDay_5 [(2, .int (0 : Int32)), (0, .ref a0), (1, .int x1)] (by decide) rfl ?_
  refine z_iconst (v := (0 : Int32)) C dX11_tellingsByDay_6 rfl ?_
  refine z_istore_n C dX11_tellingsByDay_7 [(3, .int (0 : Int32)), (2, .int (0 : Int32)), (0, .ref a0), (1, .int x1)] (by decide) rfl ?_
  refine z_iconst (v := (0 : Int32)) C dX11_tellingsByDay_8 rfl ?_
  refine z_istore C dX11_tellingsByDay_9 [(4, .int (0 : Int32)), (3, .int (0 : Int32)), (2, .int (0 : Int32)), (0, .ref a0), (1, .int x1)] (by decide) rfl ?_
  exact z_lv _ [3, 4, 2, 1, 0] rfl (tX11_tellingsByDay_11 C N N _ a0 x1 (0 : Int32) (0 : Int32) (0 : Int32))
def fX11_told (N : Nat) (h : AH) (a0 : Nat) (x1 : Int32) : Option (Int32 × AH) :=
  (if x1 = (0 : Int32) then
  (zgR h a0 11 0).bind fun a_2 =>
  (zgI h a_2 6 12).bind fun v_3 =>
  some (v_3, h)
  else if x1 = (1 : Int32) then
  (zis h a0 11).bind fun _ =>
  zcall (fX11_holding N h a0) fun a_6 h_5 =>
  (zgI h_5 a_6 5 0).bind fun v_8 =>
  some (v_8, h_5)
  else if x1 = (2 : Int32) then
  (zgR h a0 11 0).bind fun a_10 =>
  (zgR h a0 11 0).bind fun a_11 =>
  (zgR h a_11 6 3).bind fun a_12 =>
  (zis h a_10 6).bind fun _ =>
  zcall (fX6_doneWith N h a_10 a_12) fun v_14 h_13 =>
  some (v_14, h_13)
  else if x1 = (3 : Int32) then
  (zis h a0 11).bind fun _ =>
  zcall (fX11_tellingsNow N h a0) fun v_18 h_17 =>
  some (v_18, h_17)
  else if x1 = (4 : Int32) then
  (zis h a0 11).bind fun _ =>
  zcall (fX11_tellingsByDay N h a0 (0 : Int32)) fun v_22 h_21 =>
  some (v_22, h_21)
  else if x1 = (5 : Int32) then
  (zis h a0 11).bind fun _ =>
  zcall (fX11_tellingsByDay N h a0 (1 : Int32)) fun v_26 h_25 =>
  some (v_26, h_25)
  else if x1 = (6 : Int32) then
  (zis h a0 11).bind fun _ =>
  zcall (fX11_tellingsByDay N h a0 (1 : Int32)) fun v_30 h_29 =>
  (zis h_29 a0 11).bind fun _ =>
  zcall (fX11_holding N h_29 a0) fun a_33 h_32 =>
  (zgI h_32 a_33 5 0).bind fun v_35 =>
  (if v_30 ≤ v_35 then
  some ((0 : Int32), h_32)
  else
  some ((1 : Int32), h_32))
  else if x1 = (7 : Int32) then
  (zgR h a0 11 0).bind fun a_37 =>
  (zis h a_37 6).bind fun _ =>
  zcall (fX6_heldWithout N h a_37 (-1 : Int32)) fun v_39 h_38 =>
  some (v_39, h_38)
  else if x1 = (8 : Int32) then
  (zgR h a0 11 0).bind fun a_42 =>
  (zis h a_42 6).bind fun _ =>
  zcall (fX6_smallestCrew N h a_42) fun v_44 h_43 =>
  some (v_44, h_43)
  else if x1 = (9 : Int32) then
  (zgR h a0 11 0).bind fun a_47 =>
  (zis h a_47 6).bind fun _ =>
  zcall (fX6_isSafe N h a_47) fun v_49 h_48 =>
  (if v_49 = (0) then
  some ((0 : Int32), h_48)
  else
  some ((1 : Int32), h_48))
  else if x1 = (10 : Int32) then
  (zgR h a0 11 0).bind fun a_52 =>
  (zgI h a_52 6 11).bind fun v_53 =>
  some (v_53, h)
  else 
  some ((-1 : Int32), h))
theorem kX11_told {l : Launch} {g : zG} (N : Nat) (h : AH) (a0 : Nat) (x1 : Int32) : zM l g yX11_told cX11_told 2 (some .int) (8) 0 0 (fun v : Int32 => some (.int v)) (fX11_told N h a0 x1) h [.ref a0, .int x1] := by
  refine zM.of (lv0 := [(0, .ref a0), (1, .int x1)]) (by decide) (Nat.le_of_ble_eq_true rfl) rfl (fun X hX C => ?_)
  subst hX
  unfold fX11_told
  refine z_iload_n C 1 dX11_told_0 rfl ?_
  refine z_ite (fun q_1 => ?_) (fun q_1 => ?_)
  · subst q_1
    refine z_table C 60 dX11_told_1 (by decide) (by decide) rfl rfl ?_
    refine z_aload_n C 0 dX11_told_60 rfl ?_
    refine z_getR C qX11_12 dX11_told_61 (fun a_2 => ?_)
    refine z_getI C qX11_120 dX11_told_64 (fun v_3 => ?_)
    exact z_ireturn C ⟨rfl, rfl⟩ dX11_told_67
  refine z_ite (fun q_4 => ?_) (fun q_4 => ?_)
  · subst q_4
    refine z_table C 68 dX11_told_1 (by decide) (by decide) rfl rfl ?_
    refine z_aload_n C 0 dX11_told_68 rfl ?_
    refine z_bind (fun _ q_7 => ?_)
    refine z_callr (z_runV (As := []) (rest := []) C mX11_123 (kX11_holding N h a0) q_7 (Nat.le_of_ble_eq_true rfl) ⟨Nat.zero_le _, Nat.zero_le _⟩ dX11_told_69 rfl rfl (Nat.le_of_ble_eq_true rfl)) rfl (fun a_6 h_5 => ?_)
    refine z_getI C qX11_167 dX11_told_72 (fun v_8 => ?_)
    exact z_ireturn C ⟨rfl, rfl⟩ dX11_told_75
  refine z_ite (fun q_9 => ?_) (fun q_9 => ?_)
  · subst q_9
    refine z_table C 76 dX11_told_1 (by decide) (by decide) rfl rfl ?_
    refine z_aload_n C 0 dX11_told_76 rfl ?_
    refine z_getR C qX11_12 dX11_told_77 (fun a_10 => ?_)
    refine z_aload_n C 0 dX11_told_80 rfl ?_
    refine z_getR C qX11_12 dX11_told_81 (fun a_11 => ?_)
    refine z_getR C qX11_110 dX11_told_84 (fun a_12 => ?_)
    refine z_bind (fun _ q_15 => ?_)
    refine z_calli (z_runV (As := [.ref a_12]) (rest := []) C mX11_170 (kX6_doneWith N h a_10 a_12) q_15 (Nat.le_of_ble_eq_true rfl) ⟨Nat.zero_le _, Nat.zero_le _⟩ dX11_told_87 rfl rfl (Nat.le_of_ble_eq_true rfl)) rfl (fun v_14 h_13 => ?_)
    exact z_ireturn C ⟨rfl, rfl⟩ dX11_told_90
  refine z_ite (fun q_16 => ?_) (fun q_16 => ?_)
  · subst q_16
    refine z_table C 91 dX11_told_1 (by decide) (by decide) rfl rfl ?_
    refine z_aload_n C 0 dX11_told_91 rfl ?_
    refine z_bind (fun _ q_19 => ?_)
    refine z_calli (z_runV (As := []) (rest := []) C mX11_174 (kX11_tellingsNow N h a0) q_19 (Nat.le_of_ble_eq_true rfl) ⟨Nat.zero_le _, Nat.zero_le _⟩ dX11_told_92 rfl rfl (Nat.le_of_ble_eq_true rfl)) rfl (fun v_18 h_17 => ?_)
    exact z_ireturn C ⟨rfl, rfl⟩ dX11_told_95
  refine z_ite (fun q_20 => ?_) (fun q_20 => ?_)
  · subst q_20
    refine z_table C 96 dX11_told_1 (by decide) (by decide) rfl rfl ?_
    refine z_aload_n C 0 dX11_told_96 rfl ?_
    refine z_iconst (v := (0 : Int32)) C dX11_told_97 rfl ?_
    refine z_bind (fun _ q_23 => ?_)
    refine z_calli (z_runV (As := [.int (0 : Int32)]) (rest := []) C mX11_178 (kX11_tellingsByDay N h a0 (0 : Int32)) q_23 (Nat.le_of_ble_eq_true rfl) ⟨Nat.zero_le _, Nat.zero_le _⟩ dX11_told_98 rfl rfl (Nat.le_of_ble_eq_true rfl)) rfl (fun v_22 h_21 => ?_)
    exact z_ireturn C ⟨rfl, rfl⟩ dX11_told_101
  refine z_ite (fun q_24 => ?_) (fun q_24 => ?_)
  · subst q_24
    refine z_table C 102 dX11_told_1 (by decide) (by decide) rfl rfl ?_
    refine z_aload_n C 0 dX11_told_102 rfl ?_
    refine z_iconst (v := (1 : Int32)) C dX11_told_103 rfl ?_
    refine z_bind (fun _ q_27 => ?_)
    refine z_calli (z_runV (As := [.int (1 : Int32)]) (rest := []) C mX11_178 (kX11_tellingsByDay N h a0 (1 : Int32)) q_27 (Nat.le_of_ble_eq_true rfl) ⟨Nat.zero_le _, Nat.zero_le _⟩ dX11_told_104 rfl rfl (Nat.le_of_ble_eq_true rfl)) rfl (fun v_26 h_25 => ?_)
    exact z_ireturn C ⟨rfl, rfl⟩ dX11_told_107
  refine z_ite (fun q_28 => ?_) (fun q_28 => ?_)
  · subst q_28
    refine z_table C 108 dX11_told_1 (by decide) (by decide) rfl rfl ?_
    refine z_aload_n C 0 dX11_told_108 rfl ?_
    refine z_iconst (v := (1 : Int32)) C dX11_told_109 rfl ?_
    refine z_bind (fun _ q_31 => ?_)
    refine z_calli (z_runV (As := [.int (1 : Int32)]) (rest := []) C mX11_178 (kX11_tellingsByDay N h a0 (1 : Int32)) q_31 (Nat.le_of_ble_eq_true rfl) ⟨Nat.zero_le _, Nat.zero_le _⟩ dX11_told_110 rfl rfl (Nat.le_of_ble_eq_true rfl)) rfl (fun v_30 h_29 => ?_)
    refine z_aload_n C 0 dX11_told_113 rfl ?_
    refine z_bind (fun _ q_34 => ?_)
    refine z_callr (z_runV (As := []) (rest := [.int v_30]) C mX11_123 (kX11_holding N h_29 a0) q_34 (Nat.le_of_ble_eq_true rfl) ⟨Nat.zero_le _, Nat.zero_le _⟩ dX11_told_114 rfl rfl (Nat.le_of_ble_eq_true rfl)) rfl (fun a_33 h_32 => ?_)
    refine z_getI C qX11_167 dX11_told_117 (fun v_35 => ?_)
    refine z_icmple C 127 dX11_told_120 rfl ?_ ?_
    · refine z_iconst (v := (0 : Int32)) C dX11_told_127 rfl ?_
      exact z_ireturn C ⟨rfl, rfl⟩ dX11_told_128
    · refine z_iconst (v := (1 : Int32)) C dX11_told_123 rfl ?_
      refine z_goto C 128 dX11_told_124 rfl ?_
      exact z_ireturn C ⟨rfl, rfl⟩ dX11_told_128
  refine z_ite (fun q_36 => ?_) (fun q_36 => ?_)
  · subst q_36
    refine z_table C 129 dX11_told_1 (by decide) (by decide) rfl rfl ?_
    refine z_aload_n C 0 dX11_told_129 rfl ?_
    refine z_getR C qX11_12 dX11_told_130 (fun a_37 => ?_)
    refine z_iconst (v := (-1 : Int32)) C dX11_told_133 rfl ?_
    refine z_bind (fun _ q_40 => ?_)
    refine z_calli (z_runV (As := [.int (-1 : Int32)]) (rest := []) C mX11_182 (kX6_heldWithout N h a_37 (-1 : Int32)) q_40 (Nat.le_of_ble_eq_true rfl) ⟨Nat.zero_le _, Nat.zero_le _⟩ dX11_told_134 rfl rfl (Nat.le_of_ble_eq_true rfl)) rfl (fun v_39 h_38 => ?_)
    exact z_ireturn C ⟨rfl, rfl⟩ dX11_told_137
  refine z_ite (fun q_41 => ?_) (fun q_41 => ?_)
  · subst q_41
    refine z_table C 138 dX11_told_1 (by decide) (by decide) rfl rfl ?_
    refine z_aload_n C 0 dX11_told_138 rfl ?_
    refine z_getR C qX11_12 dX11_told_139 (fun a_42 => ?_)
    refine z_bind (fun _ q_45 => ?_)
    refine z_calli (z_runV (As := []) (rest := []) C mX11_185 (kX6_smallestCrew N h a_42) q_45 (Nat.le_of_ble_eq_true rfl) ⟨Nat.zero_le _, Nat.zero_le _⟩ dX11_told_142 rfl rfl (Nat.le_of_ble_eq_true rfl)) rfl (fun v_44 h_43 => ?_)
    exact z_ireturn C ⟨rfl, rfl⟩ dX11_told_145
  refine z_ite (fun q_46 => ?_) (fun q_46 => ?_)
  · subst q_46
    refine z_table C 146 dX11_told_1 (by decide) (by decide) rfl rfl ?_
    refine z_aload_n C 0 dX11_told_146 rfl ?_
    refine z_getR C qX11_12 dX11_told_147 (fun a_47 => ?_)
    refine z_bind (fun _ q_50 => ?_)
    refine z_calli (z_runV (As := []) (rest := []) C mX11_188 (kX6_isSafe N h a_47) q_50 (Nat.le_of_ble_eq_true rfl) ⟨Nat.zero_le _, Nat.zero_le _⟩ dX11_told_150 rfl rfl (Nat.le_of_ble_eq_true rfl)) rfl (fun v_49 h_48 => ?_)
    refine z_ifeq C 160 dX11_told_153 rfl ?_ ?_
    · refine z_iconst (v := (0 : Int32)) C dX11_told_160 rfl ?_
      exact z_ireturn C ⟨rfl, rfl⟩ dX11_told_161
    · refine z_iconst (v := (1 : Int32)) C dX11_told_156 rfl ?_
      refine z_goto C 161 dX11_told_157 rfl ?_
      exact z_ireturn C ⟨rfl, rfl⟩ dX11_told_161
  refine z_ite (fun q_51 => ?_) (fun q_51 => ?_)
  · subst q_51
    refine z_table C 162 dX11_told_1 (by decide) (by decide) rfl rfl ?_
    refine z_aload_n C 0 dX11_told_162 rfl ?_
    refine z_getR C qX11_12 dX11_told_163 (fun a_52 => ?_)
    refine z_getI C qX11_151 dX11_told_166 (fun v_53 => ?_)
    exact z_ireturn C ⟨rfl, rfl⟩ dX11_told_169
  refine z_tableO C 170 dX11_told_1 (by have eq_1 := lv_neT (a := 0) q_1 rfl; have eq_4 := lv_neT (a := 1) q_4 rfl; have eq_9 := lv_neT (a := 2) q_9 rfl; have eq_16 := lv_neT (a := 3) q_16 rfl; have eq_20 := lv_neT (a := 4) q_20 rfl; have eq_24 := lv_neT (a := 5) q_24 rfl; have eq_28 := lv_neT (a := 6) q_28 rfl; have eq_36 := lv_neT (a := 7) q_36 rfl; have eq_41 := lv_neT (a := 8) q_41 rfl; have eq_46 := lv_neT (a := 9) q_46 rfl; have eq_51 := lv_neT (a := 10) q_51 rfl; omega) rfl ?_
  refine z_iconst (v := (-1 : Int32)) C dX11_told_170 rfl ?_
  exact z_ireturn C ⟨rfl, rfl⟩ dX11_told_171
def fX11_pass (N : Nat) (h : AH) (a0 : Nat) (x1 : Int32) : Option (Int32 × AH) :=
  (if x1 < (0) then
  some ((-2 : Int32), h)
  else
  (if x1 ≤ (60 : Int32) then
  (zgR h a0 11 0).bind fun a_1 =>
  (zgI h a_1 6 12).bind fun v_2 =>
  (if (v_2 + x1) ≤ (9999 : Int32) then
  (zgR h a0 11 0).bind fun a_3 =>
  (zgR h a_3 6 3).bind fun a_4 =>
  (zgR h a0 11 0).bind fun a_5 =>
  (zgI h a_5 6 12).bind fun v_6 =>
  (zis h a0 11).bind fun _ =>
  zcall (fX11_sleep N h a0 a_4 v_6 x1) fun _ h_7 =>
  (zgR h_7 a0 11 0).bind fun a_9 =>
  (zgI h_7 a_9 6 12).bind fun v_10 =>
  (zput h_7 a_9 6 12 (.int (v_10 + x1))).bind fun h_11 =>
  (zgR h_11 a0 11 0).bind fun a_12 =>
  (zgI h_11 a_12 6 12).bind fun v_13 =>
  some (v_13, h_11)
  else
  some ((-3 : Int32), h))
  else
  some ((-2 : Int32), h)))
theorem kX11_pass {l : Launch} {g : zG} (N : Nat) (h : AH) (a0 : Nat) (x1 : Int32) : zM l g yX11_pass cX11_pass 2 (some .int) (7) 0 0 (fun v : Int32 => some (.int v)) (fX11_pass N h a0 x1) h [.ref a0, .int x1] := by
  refine zM.of (lv0 := [(0, .ref a0), (1, .int x1)]) (by decide) (Nat.le_of_ble_eq_true rfl) rfl (fun X hX C => ?_)
  subst hX
  unfold fX11_pass
  refine z_iload_n C 1 dX11_pass_0 rfl ?_
  refine z_iflt C 10 dX11_pass_1 rfl ?_ ?_
  · refine z_bipush (v := (-2 : Int32)) C dX11_pass_10 rfl ?_
    exact z_ireturn C ⟨rfl, rfl⟩ dX11_pass_12
  · refine z_iload_n C 1 dX11_pass_4 rfl ?_
    refine z_bipush (v := (60 : Int32)) C dX11_pass_5 rfl ?_
    refine z_icmple C 13 dX11_pass_7 rfl ?_ ?_
    · refine z_aload_n C 0 dX11_pass_13 rfl ?_
      refine z_getR C qX11_12 dX11_pass_14 (fun a_1 => ?_)
      refine z_getI C qX11_120 dX11_pass_17 (fun v_2 => ?_)
      refine z_iload_n C 1 dX11_pass_20 rfl ?_
      refine z_iadd C dX11_pass_21 ?_
      refine z_sipush (v := (9999 : Int32)) C dX11_pass_22 rfl ?_
      refine z_icmple C 31 dX11_pass_25 rfl ?_ ?_
      · refine z_aload_n C 0 dX11_pass_31 rfl ?_
        refine z_aload_n C 0 dX11_pass_32 rfl ?_
        refine z_getR C qX11_12 dX11_pass_33 (fun a_3 => ?_)
        refine z_getR C qX11_110 dX11_pass_36 (fun a_4 => ?_)
        refine z_aload_n C 0 dX11_pass_39 rfl ?_
        refine z_getR C qX11_12 dX11_pass_40 (fun a_5 => ?_)
        refine z_getI C qX11_120 dX11_pass_43 (fun v_6 => ?_)
        refine z_iload_n C 1 dX11_pass_46 rfl ?_
        refine z_bind (fun _ q_8 => ?_)
        refine z_callv (z_runV (As := [.ref a_4, .int v_6, .int x1]) (rest := []) C mX11_192 (kX11_sleep N h a0 a_4 v_6 x1) q_8 (Nat.le_of_ble_eq_true rfl) ⟨Nat.zero_le _, Nat.zero_le _⟩ dX11_pass_47 rfl rfl (Nat.le_of_ble_eq_true rfl)) rfl (fun _ h_7 => ?_)
        refine z_aload_n C 0 dX11_pass_50 rfl ?_
        refine z_getR C qX11_12 dX11_pass_51 (fun a_9 => ?_)
        refine z_dup C dX11_pass_54 rfl ?_
        refine z_getI C qX11_120 dX11_pass_55 (fun v_10 => ?_)
        refine z_iload_n C 1 dX11_pass_58 rfl ?_
        refine z_iadd C dX11_pass_59 ?_
        refine z_putI C pX11_120 dX11_pass_60 (fun h_11 => ?_)
        refine z_aload_n C 0 dX11_pass_63 rfl ?_
        refine z_getR C qX11_12 dX11_pass_64 (fun a_12 => ?_)
        refine z_getI C qX11_120 dX11_pass_67 (fun v_13 => ?_)
        exact z_ireturn C ⟨rfl, rfl⟩ dX11_pass_70
      · refine z_bipush (v := (-3 : Int32)) C dX11_pass_28 rfl ?_
        exact z_ireturn C ⟨rfl, rfl⟩ dX11_pass_30
    · refine z_bipush (v := (-2 : Int32)) C dX11_pass_10 rfl ?_
      exact z_ireturn C ⟨rfl, rfl⟩ dX11_pass_12
def bX11_keptThrough_6 (N : Nat) (r6 : AH → Nat → Int32 → Int32 → Int32 → Int32 → Option (Int32 × AH)) (h : AH) (a0 : Nat) (x1 : Int32) (x3 : Int32) (x4 : Int32) (x5 : Int32) : Option (Int32 × AH) :=
  (if x3 ≤ x5 then
  some (x4, h)
  else
  (zgR h a0 11 0).bind fun a_1 =>
  (zgR h a_1 6 2).bind fun a_2 =>
  (zald 0 h a_2 x1).bind fun v_3 =>
  (zgR h a0 11 0).bind fun a_4 =>
  (zgI h a_4 6 12).bind fun v_5 =>
  (zis h a0 11).bind fun _ =>
  zcall (fX11_keptInNight N h a0 x1 v_3 (v_5 + x5) x4) fun v_7 h_6 =>
  r6 h_6 a0 x1 x3 v_7 (x5 + (1 : Int32)))
theorem tX11_keptThrough_6 {X : zX} {g : zG} (C : zC X g yX11_keptThrough cX11_keptThrough 6 6 0 0 (some .int)) (N : Nat) (n : Nat) : ∀ (h : AH) (a0 : Nat) (x1 : Int32) (x3 : Int32) (x4 : Int32) (x5 : Int32), ZZ X g 6 (0, 0, 0, 0) (fun v : Int32 => some (.int v)) (zfix (fun _ _ _ _ _ _ => none) (bX11_keptThrough_6 N) n h a0 x1 x3 x4 x5) h 6 [(0, .ref a0), (1, .int x1), (3, .int x3), (4, .int x4), (5, .int x5)] [] := by
  induction n with
  | zero => intro h a0 x1 x3 x4 x5; exact z_none
  | succ n hr6 =>
    intro h a0 x1 x3 x4 x5
    show ZZ X g 6 (0, 0, 0, 0) _ (bX11_keptThrough_6 N (zfix (fun _ _ _ _ _ _ => none) (bX11_keptThrough_6 N) n) h a0 x1 x3 x4 x5) h 6 _ _
    unfold bX11_keptThrough_6
    refine z_iload C 4 dX11_keptThrough_6 rfl ?_
    refine z_iload_n C 2 dX11_keptThrough_8 rfl ?_
    refine z_icmpge C 46 dX11_keptThrough_9 rfl ?_ ?_
    · refine z_iload C 3 dX11_keptThrough_46 rfl ?_
      exact z_ireturn C ⟨rfl, rfl⟩ dX11_keptThrough_48
    · refine z_aload_n C 0 dX11_keptThrough_12 rfl ?_
      refine z_iload_n C 1 dX11_keptThrough_13 rfl ?_
      refine z_aload_n C 0 dX11_keptThrough_14 rfl ?_
      refine z_getR C qX11_12 dX11_keptThrough_15 (fun a_1 => ?_)
      refine z_getR C qX11_107 dX11_keptThrough_18 (fun a_2 => ?_)
      refine z_iload_n C 1 dX11_keptThrough_21 rfl ?_
      refine z_iaload C dX11_keptThrough_22 (fun v_3 => ?_)
      refine z_aload_n C 0 dX11_keptThrough_23 rfl ?_
      refine z_getR C qX11_12 dX11_keptThrough_24 (fun a_4 => ?_)
      refine z_getI C qX11_120 dX11_keptThrough_27 (fun v_5 => ?_)
      refine z_iload C 4 dX11_keptThrough_30 rfl ?_
      refine z_iadd C dX11_keptThrough_32 ?_
      refine z_iload C 3 dX11_keptThrough_33 rfl ?_
      refine z_bind (fun _ q_8 => ?_)
      refine z_calli (z_runV (As := [.int x1, .int v_3, .int (v_5 + x5), .int x4]) (rest := []) C mX11_346 (kX11_keptInNight N h a0 x1 v_3 (v_5 + x5) x4) q_8 (Nat.le_of_ble_eq_true rfl) ⟨Nat.zero_le _, Nat.zero_le _⟩ dX11_keptThrough_35 rfl rfl (Nat.le_of_ble_eq_true rfl)) rfl (fun v_7 h_6 => ?_)
      refine z_istore C dX11_keptThrough_38 [(4, .int v_7), (0, .ref a0), (1, .int x1), (3, .int x3), (5, .int x5)] (by decide) rfl ?_
      refine z_iinc (v := x5 + (1 : Int32)) C 4 dX11_keptThrough_40 [(5, .int (x5 + (1 : Int32))), (4, .int v_7), (0, .ref a0), (1, .int x1), (3, .int x3)] rfl rfl (by decide) rfl ?_
      refine z_goto C 6 dX11_keptThrough_43 rfl ?_
      exact z_lv _ [2, 3, 4, 1, 0] rfl (hr6 _ a0 x1 x3 v_7 (x5 + (1 : Int32)))
def fX11_keptThrough (N : Nat) (h : AH) (a0 : Nat) (x1 : Int32) (x2 : Int32) (x3 : Int32) : Option (Int32 × AH) :=
  zfix (fun _ _ _ _ _ _ => none) (bX11_keptThrough_6 N) N h a0 x1 x3 x2 (0 : Int32)
theorem kX11_keptThrough {l : Launch} {g : zG} (N : Nat) (h : AH) (a0 : Nat) (x1 : Int32) (x2 : Int32) (x3 : Int32) : zM l g yX11_keptThrough cX11_keptThrough 6 (some .int) (6) 0 0 (fun v : Int32 => some (.int v)) (fX11_keptThrough N h a0 x1 x2 x3) h [.ref a0, .int x1, .int x2, .int x3] := by
  refine zM.of (lv0 := [(0, .ref a0), (1, .int x1), (2, .int x2), (3, .int x3)]) (by decide) (Nat.le_of_ble_eq_true rfl) rfl (fun X hX C => ?_)
  subst hX
  unfold fX11_keptThrough
  refine z_iload_n C 2 dX11_keptThrough_0 rfl ?_
  refine z_istore C dX11_keptThrough_1 [(4, .int x2), (0, .ref a0), (1, .int x1), (2, .int x2), (3, .int x3)] (by decide) rfl ?_
  refine z_iconst (v := (0 : Int32)) C dX11_keptThrough_3 rfl ?_
  refine z_istore C dX11_keptThrough_4 [(5, .int (0 : Int32)), (4, .int x2), (0, .ref a0), (1, .int x1), (2, .int x2), (3, .int x3)] (by decide) rfl ?_
  exact z_lv _ [2, 3, 5, 1, 0] rfl (tX11_keptThrough_6 C N N _ a0 x1 x3 x2 (0 : Int32))
def bX11_on_37 (N : Nat) (h : AH) (a0 : Nat) (x1 : Int32) (x2 : Int32) (x3 : Int32) : Option (Int32 × AH) :=
  (if x1 < (0) then
  some ((-2 : Int32), h)
  else
  (if x1 ≤ (60 : Int32) then
  (zgR h a0 11 0).bind fun a_1 =>
  (zis h a_1 6).bind fun _ =>
  zcall (fX6_hasMaster N h a_1 x3) fun v_3 h_2 =>
  (if v_3 = (0) then
  (zis h_2 a0 11).bind fun _ =>
  zcall (fX11_dreamOfNow N h_2 a0) fun _ h_5 =>
  (zgR h_5 a0 11 12).bind fun a_7 =>
  (zgR h_5 a0 11 0).bind fun a_8 =>
  (zgI h_5 a_8 6 12).bind fun v_9 =>
  (zis h_5 a0 11).bind fun _ =>
  zcall (fX11_sleep N h_5 a0 a_7 v_9 x1) fun _ h_10 =>
  (if x2 = (0) then
  (zgR h_10 a0 11 0).bind fun a_17 =>
  (zgR h_10 a0 11 12).bind fun a_18 =>
  (zis h_10 a_17 6).bind fun _ =>
  zcall (fX6_doneWith N h_10 a_17 a_18) fun v_20 h_19 =>
  some (v_20, h_19)
  else
  (zgR h_10 a0 11 0).bind fun a_12 =>
  (zgR h_10 a0 11 12).bind fun a_13 =>
  (zis h_10 a_12 6).bind fun _ =>
  zcall (fX6_knownIn N h_10 a_12 a_13) fun v_15 h_14 =>
  some (v_15, h_14))
  else
  (zgR h_2 a0 11 0).bind fun a_22 =>
  (zgR h_2 a_22 6 3).bind fun a_23 =>
  (zald 0 h_2 a_23 x3).bind fun v_24 =>
  (zis h_2 a0 11).bind fun _ =>
  zcall (fX11_keptThrough N h_2 a0 x3 v_24 x1) fun v_26 h_25 =>
  some (v_26, h_25))
  else
  some ((-2 : Int32), h)))
theorem tX11_on_37 {X : zX} {g : zG} (C : zC X g yX11_on cX11_on 4 7 0 0 (some .int)) (N : Nat) (h : AH) (a0 : Nat) (x1 : Int32) (x2 : Int32) (x3 : Int32) : ZZ X g 4 (0, 0, 0, 0) (fun v : Int32 => some (.int v)) (bX11_on_37 N h a0 x1 x2 x3) h 37 [(0, .ref a0), (1, .int x1), (2, .int x2), (3, .int x3)] [] := by
  unfold bX11_on_37
  refine z_iload_n C 1 dX11_on_37 rfl ?_
  refine z_iflt C 47 dX11_on_38 rfl ?_ ?_
  · refine z_bipush (v := (-2 : Int32)) C dX11_on_47 rfl ?_
    exact z_ireturn C ⟨rfl, rfl⟩ dX11_on_49
  · refine z_iload_n C 1 dX11_on_41 rfl ?_
    refine z_bipush (v := (60 : Int32)) C dX11_on_42 rfl ?_
    refine z_icmple C 50 dX11_on_44 rfl ?_ ?_
    · refine z_aload_n C 0 dX11_on_50 rfl ?_
      refine z_getR C qX11_12 dX11_on_51 (fun a_1 => ?_)
      refine z_iload_n C 3 dX11_on_54 rfl ?_
      refine z_bind (fun _ q_4 => ?_)
      refine z_calli (z_runV (As := [.int x3]) (rest := []) C mX11_97 (kX6_hasMaster N h a_1 x3) q_4 (Nat.le_of_ble_eq_true rfl) ⟨Nat.zero_le _, Nat.zero_le _⟩ dX11_on_55 rfl rfl (Nat.le_of_ble_eq_true rfl)) rfl (fun v_3 h_2 => ?_)
      refine z_ifeq C 77 dX11_on_58 rfl ?_ ?_
      · refine z_aload_n C 0 dX11_on_77 rfl ?_
        refine z_bind (fun _ q_6 => ?_)
        refine z_callv (z_runV (As := []) (rest := []) C mX11_199 (kX11_dreamOfNow N h_2 a0) q_6 (Nat.le_of_ble_eq_true rfl) ⟨Nat.zero_le _, Nat.zero_le _⟩ dX11_on_78 rfl rfl (Nat.le_of_ble_eq_true rfl)) rfl (fun _ h_5 => ?_)
        refine z_aload_n C 0 dX11_on_81 rfl ?_
        refine z_aload_n C 0 dX11_on_82 rfl ?_
        refine z_getR C qX11_89 dX11_on_83 (fun a_7 => ?_)
        refine z_aload_n C 0 dX11_on_86 rfl ?_
        refine z_getR C qX11_12 dX11_on_87 (fun a_8 => ?_)
        refine z_getI C qX11_120 dX11_on_90 (fun v_9 => ?_)
        refine z_iload_n C 1 dX11_on_93 rfl ?_
        refine z_bind (fun _ q_11 => ?_)
        refine z_callv (z_runV (As := [.ref a_7, .int v_9, .int x1]) (rest := []) C mX11_192 (kX11_sleep N h_5 a0 a_7 v_9 x1) q_11 (Nat.le_of_ble_eq_true rfl) ⟨Nat.zero_le _, Nat.zero_le _⟩ dX11_on_94 rfl rfl (Nat.le_of_ble_eq_true rfl)) rfl (fun _ h_10 => ?_)
        refine z_iload_n C 2 dX11_on_97 rfl ?_
        refine z_ifne C 115 dX11_on_98 rfl ?_ ?_
        · refine z_aload_n C 0 dX11_on_115 rfl ?_
          refine z_getR C qX11_12 dX11_on_116 (fun a_12 => ?_)
          refine z_aload_n C 0 dX11_on_119 rfl ?_
          refine z_getR C qX11_89 dX11_on_120 (fun a_13 => ?_)
          refine z_bind (fun _ q_16 => ?_)
          refine z_calli (z_runV (As := [.ref a_13]) (rest := []) C mX11_202 (kX6_knownIn N h_10 a_12 a_13) q_16 (Nat.le_of_ble_eq_true rfl) ⟨Nat.zero_le _, Nat.zero_le _⟩ dX11_on_123 rfl rfl (Nat.le_of_ble_eq_true rfl)) rfl (fun v_15 h_14 => ?_)
          exact z_ireturn C ⟨rfl, rfl⟩ dX11_on_126
        · refine z_aload_n C 0 dX11_on_101 rfl ?_
          refine z_getR C qX11_12 dX11_on_102 (fun a_17 => ?_)
          refine z_aload_n C 0 dX11_on_105 rfl ?_
          refine z_getR C qX11_89 dX11_on_106 (fun a_18 => ?_)
          refine z_bind (fun _ q_21 => ?_)
          refine z_calli (z_runV (As := [.ref a_18]) (rest := []) C mX11_170 (kX6_doneWith N h_10 a_17 a_18) q_21 (Nat.le_of_ble_eq_true rfl) ⟨Nat.zero_le _, Nat.zero_le _⟩ dX11_on_109 rfl rfl (Nat.le_of_ble_eq_true rfl)) rfl (fun v_20 h_19 => ?_)
          refine z_goto C 126 dX11_on_112 rfl ?_
          exact z_ireturn C ⟨rfl, rfl⟩ dX11_on_126
      · refine z_aload_n C 0 dX11_on_61 rfl ?_
        refine z_iload_n C 3 dX11_on_62 rfl ?_
        refine z_aload_n C 0 dX11_on_63 rfl ?_
        refine z_getR C qX11_12 dX11_on_64 (fun a_22 => ?_)
        refine z_getR C qX11_110 dX11_on_67 (fun a_23 => ?_)
        refine z_iload_n C 3 dX11_on_70 rfl ?_
        refine z_iaload C dX11_on_71 (fun v_24 => ?_)
        refine z_iload_n C 1 dX11_on_72 rfl ?_
        refine z_bind (fun _ q_27 => ?_)
        refine z_calli (z_runV (As := [.int x3, .int v_24, .int x1]) (rest := []) C mX11_196 (kX11_keptThrough N h_2 a0 x3 v_24 x1) q_27 (Nat.le_of_ble_eq_true rfl) ⟨Nat.zero_le _, Nat.zero_le _⟩ dX11_on_73 rfl rfl (Nat.le_of_ble_eq_true rfl)) rfl (fun v_26 h_25 => ?_)
        exact z_ireturn C ⟨rfl, rfl⟩ dX11_on_76
    · refine z_bipush (v := (-2 : Int32)) C dX11_on_47 rfl ?_
      exact z_ireturn C ⟨rfl, rfl⟩ dX11_on_49
def bX11_on_14 (N : Nat) (h : AH) (a0 : Nat) (x1 : Int32) (x2 : Int32) (s0 : Int32) : Option (Int32 × AH) :=
  (if x2 = (0) then
  bX11_on_37 N h a0 x1 x2 s0
  else
  (if x2 = (1 : Int32) then
  bX11_on_37 N h a0 x1 x2 s0
  else
  (zgR h a0 11 0).bind fun a_1 =>
  (zis h a_1 6).bind fun _ =>
  zcall (fX6_hasMaster N h a_1 s0) fun v_3 h_2 =>
  (if v_3 = (0) then
  some ((-1 : Int32), h_2)
  else
  bX11_on_37 N h_2 a0 x1 x2 s0)))
theorem tX11_on_14 {X : zX} {g : zG} (C : zC X g yX11_on cX11_on 4 7 0 0 (some .int)) (N : Nat) (h : AH) (a0 : Nat) (x1 : Int32) (x2 : Int32) (s0 : Int32) : ZZ X g 4 (0, 0, 0, 0) (fun v : Int32 => some (.int v)) (bX11_on_14 N h a0 x1 x2 s0) h 14 [(0, .ref a0), (1, .int x1), (2, .int x2)] [.int s0] := by
  unfold bX11_on_14
  refine z_istore_n C dX11_on_14 [(3, .int s0), (0, .ref a0), (1, .int x1), (2, .int x2)] (by decide) rfl ?_
  refine z_iload_n C 3 dX11_on_15 rfl ?_
  refine z_ifeq C 37 dX11_on_16 rfl ?_ ?_
  · exact z_lv _ [1, 2, 3, 0] rfl (tX11_on_37 C N _ a0 x1 x2 s0)
  · refine z_iload_n C 3 dX11_on_19 rfl ?_
    refine z_iconst (v := (1 : Int32)) C dX11_on_20 rfl ?_
    refine z_icmpeq C 37 dX11_on_21 rfl ?_ ?_
    · exact z_lv _ [1, 2, 3, 0] rfl (tX11_on_37 C N _ a0 x1 x2 s0)
    · refine z_aload_n C 1 dX11_on_24 rfl ?_
      refine z_getR C qX11_12 dX11_on_25 (fun a_1 => ?_)
      refine z_iload_n C 0 dX11_on_28 rfl ?_
      refine z_bind (fun _ q_4 => ?_)
      refine z_calli (z_runV (As := [.int s0]) (rest := []) C mX11_97 (kX6_hasMaster N h a_1 s0) q_4 (Nat.le_of_ble_eq_true rfl) ⟨Nat.zero_le _, Nat.zero_le _⟩ dX11_on_29 rfl rfl (Nat.le_of_ble_eq_true rfl)) rfl (fun v_3 h_2 => ?_)
      refine z_ifne C 37 dX11_on_32 rfl ?_ ?_
      · exact z_lv _ [1, 2, 3, 0] rfl (tX11_on_37 C N _ a0 x1 x2 s0)
      · refine z_iconst (v := (-1 : Int32)) C dX11_on_35 rfl ?_
        exact z_ireturn C ⟨rfl, rfl⟩ dX11_on_36
def fX11_on (N : Nat) (h : AH) (a0 : Nat) (x1 : Int32) (x2 : Int32) : Option (Int32 × AH) :=
  (if (10 : Int32) ≤ x2 then
  bX11_on_14 N h a0 x1 x2 (x2 - (10 : Int32))
  else
  bX11_on_14 N h a0 x1 x2 (-1 : Int32))
theorem kX11_on {l : Launch} {g : zG} (N : Nat) (h : AH) (a0 : Nat) (x1 : Int32) (x2 : Int32) : zM l g yX11_on cX11_on 4 (some .int) (7) 0 0 (fun v : Int32 => some (.int v)) (fX11_on N h a0 x1 x2) h [.ref a0, .int x1, .int x2] := by
  refine zM.of (lv0 := [(0, .ref a0), (1, .int x1), (2, .int x2)]) (by decide) (Nat.le_of_ble_eq_true rfl) rfl (fun X hX C => ?_)
  subst hX
  unfold fX11_on
  refine z_iload_n C 2 dX11_on_0 rfl ?_
  refine z_bipush (v := (10 : Int32)) C dX11_on_1 rfl ?_
  refine z_icmpge C 10 dX11_on_3 rfl ?_ ?_
  · refine z_iload_n C 2 dX11_on_10 rfl ?_
    refine z_bipush (v := (10 : Int32)) C dX11_on_11 rfl ?_
    refine z_isub C dX11_on_13 ?_
    exact z_lv _ [0, 1, 2] rfl (tX11_on_14 C N _ a0 x1 x2 (x2 - (10 : Int32)))
  · refine z_iconst (v := (-1 : Int32)) C dX11_on_6 rfl ?_
    refine z_goto C 14 dX11_on_7 rfl ?_
    exact z_lv _ [0, 1, 2] rfl (tX11_on_14 C N _ a0 x1 x2 (-1 : Int32))
def fX11_see (N : Nat) (h : AH) (a0 : Nat) (x1 : Int32) (x2 : Int32) (x3 : Int32) (x4 : Int32) : Option (Int32 × AH) :=
  (if x1 = (-1 : Int32) then
  (zgR h a0 11 0).bind fun a_11 =>
  (zput h a_11 6 14 (.int (0 : Int32))).bind fun h_12 =>
  some ((0 : Int32), h_12)
  else
  (zgR h a0 11 0).bind fun a_1 =>
  (zis h a_1 6).bind fun _ =>
  zcall (fX6_hasMaster N h a_1 x1) fun v_3 h_2 =>
  (if v_3 = (0) then
  some ((-1 : Int32), h_2)
  else
  zcall (fX11_isFact N h_2 x2) fun v_6 h_5 =>
  (if v_6 = (0) then
  some ((-1 : Int32), h_5)
  else
  (if x3 < (0) then
  some ((-2 : Int32), h_5)
  else
  (if x3 ≤ (20 : Int32) then
  (zgR h_5 a0 11 0).bind fun a_7 =>
  (zis h_5 a_7 6).bind fun _ =>
  zcall (fX6_addSeen N h_5 a_7 x1 x2 x3 x4) fun v_9 h_8 =>
  some (v_9, h_8)
  else
  some ((-2 : Int32), h_5))))))
theorem kX11_see {l : Launch} {g : zG} (N : Nat) (h : AH) (a0 : Nat) (x1 : Int32) (x2 : Int32) (x3 : Int32) (x4 : Int32) : zM l g yX11_see cX11_see 5 (some .int) (2) 0 0 (fun v : Int32 => some (.int v)) (fX11_see N h a0 x1 x2 x3 x4) h [.ref a0, .int x1, .int x2, .int x3, .int x4] := by
  refine zM.of (lv0 := [(0, .ref a0), (1, .int x1), (2, .int x2), (3, .int x3), (4, .int x4)]) (by decide) (Nat.le_of_ble_eq_true rfl) rfl (fun X hX C => ?_)
  subst hX
  unfold fX11_see
  refine z_iload_n C 1 dX11_see_0 rfl ?_
  refine z_iconst (v := (-1 : Int32)) C dX11_see_1 rfl ?_
  refine z_icmpne C 15 dX11_see_2 rfl ?_ ?_
  · refine z_aload_n C 0 dX11_see_15 rfl ?_
    refine z_getR C qX11_12 dX11_see_16 (fun a_1 => ?_)
    refine z_iload_n C 1 dX11_see_19 rfl ?_
    refine z_bind (fun _ q_4 => ?_)
    refine z_calli (z_runV (As := [.int x1]) (rest := []) C mX11_97 (kX6_hasMaster N h a_1 x1) q_4 (Nat.le_of_ble_eq_true rfl) ⟨Nat.zero_le _, Nat.zero_le _⟩ dX11_see_20 rfl rfl (Nat.le_of_ble_eq_true rfl)) rfl (fun v_3 h_2 => ?_)
    refine z_ifeq C 33 dX11_see_23 rfl ?_ ?_
    · refine z_iconst (v := (-1 : Int32)) C dX11_see_33 rfl ?_
      exact z_ireturn C ⟨rfl, rfl⟩ dX11_see_34
    · refine z_iload_n C 2 dX11_see_26 rfl ?_
      refine z_calli (z_runS (As := [.int x2]) (rest := []) C mX11_117 (kX11_isFact N h_2 x2) (Nat.le_of_ble_eq_true rfl) ⟨Nat.zero_le _, Nat.zero_le _⟩ dX11_see_27 rfl rfl (Nat.le_of_ble_eq_true rfl)) rfl (fun v_6 h_5 => ?_)
      refine z_ifne C 35 dX11_see_30 rfl ?_ ?_
      · refine z_iload_n C 3 dX11_see_35 rfl ?_
        refine z_iflt C 45 dX11_see_36 rfl ?_ ?_
        · refine z_bipush (v := (-2 : Int32)) C dX11_see_45 rfl ?_
          exact z_ireturn C ⟨rfl, rfl⟩ dX11_see_47
        · refine z_iload_n C 3 dX11_see_39 rfl ?_
          refine z_bipush (v := (20 : Int32)) C dX11_see_40 rfl ?_
          refine z_icmple C 48 dX11_see_42 rfl ?_ ?_
          · refine z_aload_n C 0 dX11_see_48 rfl ?_
            refine z_getR C qX11_12 dX11_see_49 (fun a_7 => ?_)
            refine z_iload_n C 1 dX11_see_52 rfl ?_
            refine z_iload_n C 2 dX11_see_53 rfl ?_
            refine z_iload_n C 3 dX11_see_54 rfl ?_
            refine z_iload C 4 dX11_see_55 rfl ?_
            refine z_bind (fun _ q_10 => ?_)
            refine z_calli (z_runV (As := [.int x1, .int x2, .int x3, .int x4]) (rest := []) C mX11_208 (kX6_addSeen N h_5 a_7 x1 x2 x3 x4) q_10 (Nat.le_of_ble_eq_true rfl) ⟨Nat.zero_le _, Nat.zero_le _⟩ dX11_see_57 rfl rfl (Nat.le_of_ble_eq_true rfl)) rfl (fun v_9 h_8 => ?_)
            exact z_ireturn C ⟨rfl, rfl⟩ dX11_see_60
          · refine z_bipush (v := (-2 : Int32)) C dX11_see_45 rfl ?_
            exact z_ireturn C ⟨rfl, rfl⟩ dX11_see_47
      · refine z_iconst (v := (-1 : Int32)) C dX11_see_33 rfl ?_
        exact z_ireturn C ⟨rfl, rfl⟩ dX11_see_34
  · refine z_aload_n C 0 dX11_see_5 rfl ?_
    refine z_getR C qX11_12 dX11_see_6 (fun a_11 => ?_)
    refine z_iconst (v := (0 : Int32)) C dX11_see_9 rfl ?_
    refine z_putI C pX11_205 dX11_see_10 (fun h_12 => ?_)
    refine z_iconst (v := (0 : Int32)) C dX11_see_13 rfl ?_
    exact z_ireturn C ⟨rfl, rfl⟩ dX11_see_14
def bX11_isSo_54 (N : Nat) (h : AH) (a3 : Nat) (s0 : Int32) : Option (Int32 × AH) :=
  (zald 0 h a3 (3 : Int32)).bind fun v_1 =>
  (if v_1 = (0) then
  (if s0 = (0 : Int32) then
  zret .boolean (1 : Int32) h
  else
  zret .boolean (0 : Int32) h)
  else
  (if s0 = (1 : Int32) then
  zret .boolean (1 : Int32) h
  else
  zret .boolean (0 : Int32) h))
theorem tX11_isSo_54 {X : zX} {g : zG} (C : zC X g yX11_isSo cX11_isSo 7 6 0 0 (some .boolean)) (N : Nat) (h : AH) (a3 : Nat) (s0 : Int32) : ZZ X g 7 (0, 0, 0, 0) (fun v : Int32 => some (.int v)) (bX11_isSo_54 N h a3 s0) h 54 [(3, .ref a3)] [.int s0] := by
  unfold bX11_isSo_54
  refine z_aload_n C 0 dX11_isSo_54 rfl ?_
  refine z_iconst (v := (3 : Int32)) C dX11_isSo_55 rfl ?_
  refine z_iaload C dX11_isSo_56 (fun v_1 => ?_)
  refine z_ifeq C 64 dX11_isSo_57 rfl ?_ ?_
  · refine z_iconst (v := (0 : Int32)) C dX11_isSo_64 rfl ?_
    refine z_icmpne C 72 dX11_isSo_65 rfl ?_ ?_
    · refine z_iconst (v := (0 : Int32)) C dX11_isSo_72 rfl ?_
      exact z_zreturn C ⟨rfl, rfl⟩ dX11_isSo_73
    · refine z_iconst (v := (1 : Int32)) C dX11_isSo_68 rfl ?_
      refine z_goto C 73 dX11_isSo_69 rfl ?_
      exact z_zreturn C ⟨rfl, rfl⟩ dX11_isSo_73
  · refine z_iconst (v := (1 : Int32)) C dX11_isSo_60 rfl ?_
    refine z_goto C 65 dX11_isSo_61 rfl ?_
    refine z_icmpne C 72 dX11_isSo_65 rfl ?_ ?_
    · refine z_iconst (v := (0 : Int32)) C dX11_isSo_72 rfl ?_
      exact z_zreturn C ⟨rfl, rfl⟩ dX11_isSo_73
    · refine z_iconst (v := (1 : Int32)) C dX11_isSo_68 rfl ?_
      refine z_goto C 73 dX11_isSo_69 rfl ?_
      exact z_zreturn C ⟨rfl, rfl⟩ dX11_isSo_73
def fX11_isSo (N : Nat) (h : AH) (a0 : Nat) (x1 : Int32) (x2 : Int32) : Option (Int32 × AH) :=
  (zgR h a0 11 0).bind fun a_1 =>
  (zgR h a_1 6 15).bind fun a_2 =>
  (zaald 7 h a_2 x1).bind fun a_3 =>
  (zald 0 h a_3 (1 : Int32)).bind fun v_4 =>
  znm ((1 : Int32) <<< (v_4 &&& 31)) fun y_5 =>
  (zgR h a0 11 0).bind fun a_6 =>
  (zgI h a_6 6 12).bind fun v_7 =>
  (zald 0 h a_3 (2 : Int32)).bind fun v_8 =>
  znm (v_7 + v_8) fun y_9 =>
  (zald 0 h a_3 (0 : Int32)).bind fun v_10 =>
  (zis h a0 11).bind fun _ =>
  zcall (fX11_keptInNight N h a0 v_10 x2 y_9 y_5) fun v_12 h_11 =>
  (if v_12 = (0) then
  bX11_isSo_54 N h_11 a_3 (0 : Int32)
  else
  bX11_isSo_54 N h_11 a_3 (1 : Int32))
theorem kX11_isSo {l : Launch} {g : zG} (N : Nat) (h : AH) (a0 : Nat) (x1 : Int32) (x2 : Int32) : zM l g yX11_isSo cX11_isSo 7 (some .boolean) (6) 0 0 (fun v : Int32 => some (.int v)) (fX11_isSo N h a0 x1 x2) h [.ref a0, .int x1, .int x2] := by
  refine zM.of (lv0 := [(0, .ref a0), (1, .int x1), (2, .int x2)]) (by decide) (Nat.le_of_ble_eq_true rfl) rfl (fun X hX C => ?_)
  subst hX
  unfold fX11_isSo
  refine z_aload_n C 0 dX11_isSo_0 rfl ?_
  refine z_getR C qX11_12 dX11_isSo_1 (fun a_1 => ?_)
  refine z_getR C qX11_212 dX11_isSo_4 (fun a_2 => ?_)
  refine z_iload_n C 1 dX11_isSo_7 rfl ?_
  refine z_aaload C (by decide) dX11_isSo_8 (fun a_3 => ?_)
  refine z_astore_n C dX11_isSo_9 [(3, .ref a_3), (0, .ref a0), (1, .int x1), (2, .int x2)] (by decide) rfl ?_
  refine z_iconst (v := (1 : Int32)) C dX11_isSo_10 rfl ?_
  refine z_aload_n C 0 dX11_isSo_11 rfl ?_
  refine z_iconst (v := (1 : Int32)) C dX11_isSo_12 rfl ?_
  refine z_iaload C dX11_isSo_13 (fun v_4 => ?_)
  refine z_ishl C dX11_isSo_14 ?_
  refine z_nmI (fun y_5 => ?_)
  refine z_istore C dX11_isSo_15 [(4, .int y_5), (3, .ref a_3), (0, .ref a0), (1, .int x1), (2, .int x2)] (by decide) rfl ?_
  refine z_aload_n C 2 dX11_isSo_17 rfl ?_
  refine z_getR C qX11_12 dX11_isSo_18 (fun a_6 => ?_)
  refine z_getI C qX11_120 dX11_isSo_21 (fun v_7 => ?_)
  refine z_aload_n C 1 dX11_isSo_24 rfl ?_
  refine z_iconst (v := (2 : Int32)) C dX11_isSo_25 rfl ?_
  refine z_iaload C dX11_isSo_26 (fun v_8 => ?_)
  refine z_iadd C dX11_isSo_27 ?_
  refine z_nmI (fun y_9 => ?_)
  refine z_istore C dX11_isSo_28 [(5, .int y_9), (4, .int y_5), (3, .ref a_3), (0, .ref a0), (1, .int x1), (2, .int x2)] (by decide) rfl ?_
  refine z_aload_n C 3 dX11_isSo_30 rfl ?_
  refine z_aload_n C 2 dX11_isSo_31 rfl ?_
  refine z_iconst (v := (0 : Int32)) C dX11_isSo_32 rfl ?_
  refine z_iaload C dX11_isSo_33 (fun v_10 => ?_)
  refine z_iload_n C 5 dX11_isSo_34 rfl ?_
  refine z_iload C 0 dX11_isSo_35 rfl ?_
  refine z_iload C 1 dX11_isSo_37 rfl ?_
  refine z_bind (fun _ q_13 => ?_)
  refine z_calli (z_runV (As := [.int v_10, .int x2, .int y_9, .int y_5]) (rest := []) C mX11_346 (kX11_keptInNight N h a0 v_10 x2 y_9 y_5) q_13 (Nat.le_of_ble_eq_true rfl) ⟨Nat.zero_le _, Nat.zero_le _⟩ dX11_isSo_39 rfl rfl (Nat.le_of_ble_eq_true rfl)) rfl (fun v_12 h_11 => ?_)
  refine z_istore C dX11_isSo_42 [(6, .int v_12), (5, .int y_9), (4, .int y_5), (3, .ref a_3), (0, .ref a0), (1, .int x1), (2, .int x2)] (by decide) rfl ?_
  refine z_iload C 0 dX11_isSo_44 rfl ?_
  refine z_ifeq C 53 dX11_isSo_46 rfl ?_ ?_
  · refine z_iconst (v := (0 : Int32)) C dX11_isSo_53 rfl ?_
    exact z_lv _ [3] rfl (tX11_isSo_54 C N _ a_3 (0 : Int32))
  · refine z_iconst (v := (1 : Int32)) C dX11_isSo_49 rfl ?_
    refine z_goto C 54 dX11_isSo_50 rfl ?_
    exact z_lv _ [3] rfl (tX11_isSo_54 C N _ a_3 (1 : Int32))
def bX11_wrong_2 (N : Nat) (r2 : AH → Nat → Int32 → Option (Int32 × AH)) (h : AH) (a0 : Nat) (x1 : Int32) : Option (Int32 × AH) :=
  (zgR h a0 11 0).bind fun a_1 =>
  (zgI h a_1 6 14).bind fun v_2 =>
  (if v_2 ≤ x1 then
  some ((-5 : Int32), h)
  else
  (zgR h a0 11 0).bind fun a_3 =>
  (zgR h a_3 6 15).bind fun a_4 =>
  (zaald 7 h a_4 x1).bind fun a_5 =>
  (zald 0 h a_5 (0 : Int32)).bind fun v_6 =>
  (zgR h a0 11 0).bind fun a_7 =>
  (zis h a_7 6).bind fun _ =>
  zcall (fX6_hasMaster N h a_7 v_6) fun v_9 h_8 =>
  (if v_9 = (0) then
  r2 h_8 a0 (x1 + (1 : Int32))
  else
  (zgR h_8 a0 11 0).bind fun a_11 =>
  (zgR h_8 a_11 6 2).bind fun a_12 =>
  (zald 0 h_8 a_12 v_6).bind fun v_13 =>
  (zis h_8 a0 11).bind fun _ =>
  zcall (fX11_isSo N h_8 a0 x1 v_13) fun v_15 h_14 =>
  (if v_15 = (0) then
  some (x1, h_14)
  else
  r2 h_14 a0 (x1 + (1 : Int32)))))
theorem tX11_wrong_2 {X : zX} {g : zG} (C : zC X g yX11_wrong cX11_wrong 3 7 0 0 (some .int)) (N : Nat) (n : Nat) : ∀ (h : AH) (a0 : Nat) (x1 : Int32), ZZ X g 3 (0, 0, 0, 0) (fun v : Int32 => some (.int v)) (zfix (fun _ _ _ => none) (bX11_wrong_2 N) n h a0 x1) h 2 [(0, .ref a0), (1, .int x1)] [] := by
  induction n with
  | zero => intro h a0 x1; exact z_none
  | succ n hr2 =>
    intro h a0 x1
    show ZZ X g 3 (0, 0, 0, 0) _ (bX11_wrong_2 N (zfix (fun _ _ _ => none) (bX11_wrong_2 N) n) h a0 x1) h 2 _ _
    unfold bX11_wrong_2
    refine z_iload_n C 1 dX11_wrong_2 rfl ?_
    refine z_aload_n C 0 dX11_wrong_3 rfl ?_
    refine z_getR C qX11_12 dX11_wrong_4 (fun a_1 => ?_)
    refine z_getI C qX11_205 dX11_wrong_7 (fun v_2 => ?_)
    refine z_icmpge C 61 dX11_wrong_10 rfl ?_ ?_
    · refine z_bipush (v := (-5 : Int32)) C dX11_wrong_61 rfl ?_
      exact z_ireturn C ⟨rfl, rfl⟩ dX11_wrong_63
    · refine z_aload_n C 0 dX11_wrong_13 rfl ?_
      refine z_getR C qX11_12 dX11_wrong_14 (fun a_3 => ?_)
      refine z_getR C qX11_212 dX11_wrong_17 (fun a_4 => ?_)
      refine z_iload_n C 1 dX11_wrong_20 rfl ?_
      refine z_aaload C (by decide) dX11_wrong_21 (fun a_5 => ?_)
      refine z_iconst (v := (0 : Int32)) C dX11_wrong_22 rfl ?_
      refine z_iaload C dX11_wrong_23 (fun v_6 => ?_)
      refine z_istore_n C dX11_wrong_24 [(2, .int v_6), (0, .ref a0), (1, .int x1)] (by decide) rfl ?_
      refine z_aload_n C 1 dX11_wrong_25 rfl ?_
      refine z_getR C qX11_12 dX11_wrong_26 (fun a_7 => ?_)
      refine z_iload_n C 0 dX11_wrong_29 rfl ?_
      refine z_bind (fun _ q_10 => ?_)
      refine z_calli (z_runV (As := [.int v_6]) (rest := []) C mX11_97 (kX6_hasMaster N h a_7 v_6) q_10 (Nat.le_of_ble_eq_true rfl) ⟨Nat.zero_le _, Nat.zero_le _⟩ dX11_wrong_30 rfl rfl (Nat.le_of_ble_eq_true rfl)) rfl (fun v_9 h_8 => ?_)
      refine z_ifeq C 55 dX11_wrong_33 rfl ?_ ?_
      · refine z_iinc (v := x1 + (1 : Int32)) C 2 dX11_wrong_55 [(1, .int (x1 + (1 : Int32))), (2, .int v_6), (0, .ref a0)] rfl rfl (by decide) rfl ?_
        refine z_goto C 2 dX11_wrong_58 rfl ?_
        exact z_lv _ [2, 0] rfl (hr2 _ a0 (x1 + (1 : Int32)))
      · refine z_aload_n C 1 dX11_wrong_36 rfl ?_
        refine z_iload_n C 2 dX11_wrong_37 rfl ?_
        refine z_aload_n C 1 dX11_wrong_38 rfl ?_
        refine z_getR C qX11_12 dX11_wrong_39 (fun a_11 => ?_)
        refine z_getR C qX11_107 dX11_wrong_42 (fun a_12 => ?_)
        refine z_iload_n C 0 dX11_wrong_45 rfl ?_
        refine z_iaload C dX11_wrong_46 (fun v_13 => ?_)
        refine z_bind (fun _ q_16 => ?_)
        refine z_calli (z_runV (As := [.int x1, .int v_13]) (rest := []) C mX11_216 (kX11_isSo N h_8 a0 x1 v_13) q_16 (Nat.le_of_ble_eq_true rfl) ⟨Nat.zero_le _, Nat.zero_le _⟩ dX11_wrong_47 rfl rfl (Nat.le_of_ble_eq_true rfl)) rfl (fun v_15 h_14 => ?_)
        refine z_ifne C 55 dX11_wrong_50 rfl ?_ ?_
        · refine z_iinc (v := x1 + (1 : Int32)) C 2 dX11_wrong_55 [(1, .int (x1 + (1 : Int32))), (2, .int v_6), (0, .ref a0)] rfl rfl (by decide) rfl ?_
          refine z_goto C 2 dX11_wrong_58 rfl ?_
          exact z_lv _ [2, 0] rfl (hr2 _ a0 (x1 + (1 : Int32)))
        · refine z_iload_n C 2 dX11_wrong_53 rfl ?_
          exact z_ireturn C ⟨rfl, rfl⟩ dX11_wrong_54
def fX11_wrong (N : Nat) (h : AH) (a0 : Nat) : Option (Int32 × AH) :=
  zfix (fun _ _ _ => none) (bX11_wrong_2 N) N h a0 (0 : Int32)
theorem kX11_wrong {l : Launch} {g : zG} (N : Nat) (h : AH) (a0 : Nat) : zM l g yX11_wrong cX11_wrong 3 (some .int) (7) 0 0 (fun v : Int32 => some (.int v)) (fX11_wrong N h a0) h [.ref a0] := by
  refine zM.of (lv0 := [(0, .ref a0)]) (by decide) (Nat.le_of_ble_eq_true rfl) rfl (fun X hX C => ?_)
  subst hX
  unfold fX11_wrong
  refine z_iconst (v := (0 : Int32)) C dX11_wrong_0 rfl ?_
  refine z_istore_n C dX11_wrong_1 [(1, .int (0 : Int32)), (0, .ref a0)] (by decide) rfl ?_
  exact z_lv _ [1, 0] rfl (tX11_wrong_2 C N N _ a0 (0 : Int32))
def fX11_isPart (N : Nat) (h : AH) (x0 : Int32) : Option (Int32 × AH) :=
  (if x0 = (0) then
  zret .boolean (1 : Int32) h
  else
  (if x0 = (1 : Int32) then
  zret .boolean (1 : Int32) h
  else
  zret .boolean (0 : Int32) h))
theorem kX11_isPart {l : Launch} {g : zG} (N : Nat) (h : AH) (x0 : Int32) : zM l g yX11_isPart cX11_isPart 1 (some .boolean) (1) 0 0 (fun v : Int32 => some (.int v)) (fX11_isPart N h x0) h [.int x0] := by
  refine zM.of (lv0 := [(0, .int x0)]) (by decide) (Nat.le_of_ble_eq_true rfl) rfl (fun X hX C => ?_)
  subst hX
  unfold fX11_isPart
  refine z_iload_n C 0 dX11_isPart_0 rfl ?_
  refine z_ifeq C 9 dX11_isPart_1 rfl ?_ ?_
  · refine z_iconst (v := (1 : Int32)) C dX11_isPart_9 rfl ?_
    refine z_goto C 14 dX11_isPart_10 rfl ?_
    exact z_zreturn C ⟨rfl, rfl⟩ dX11_isPart_14
  · refine z_iload_n C 0 dX11_isPart_4 rfl ?_
    refine z_iconst (v := (1 : Int32)) C dX11_isPart_5 rfl ?_
    refine z_icmpne C 13 dX11_isPart_6 rfl ?_ ?_
    · refine z_iconst (v := (0 : Int32)) C dX11_isPart_13 rfl ?_
      exact z_zreturn C ⟨rfl, rfl⟩ dX11_isPart_14
    · refine z_iconst (v := (1 : Int32)) C dX11_isPart_9 rfl ?_
      refine z_goto C 14 dX11_isPart_10 rfl ?_
      exact z_zreturn C ⟨rfl, rfl⟩ dX11_isPart_14
def bX11_fitsSeen_2 (N : Nat) (r2 : AH → Nat → Int32 → Int32 → Int32 → Option (Int32 × AH)) (h : AH) (a0 : Nat) (x1 : Int32) (x2 : Int32) (x3 : Int32) : Option (Int32 × AH) :=
  (zgR h a0 11 0).bind fun a_1 =>
  (zgI h a_1 6 14).bind fun v_2 =>
  (if v_2 ≤ x3 then
  zret .boolean (1 : Int32) h
  else
  (zgR h a0 11 0).bind fun a_3 =>
  (zgR h a_3 6 15).bind fun a_4 =>
  (zaald 7 h a_4 x3).bind fun a_5 =>
  (zald 0 h a_5 (0 : Int32)).bind fun v_6 =>
  (if v_6 = x1 then
  (zis h a0 11).bind fun _ =>
  zcall (fX11_isSo N h a0 x3 x2) fun v_8 h_7 =>
  (if v_8 = (0) then
  zret .boolean (0 : Int32) h_7
  else
  r2 h_7 a0 x1 x2 (x3 + (1 : Int32)))
  else
  r2 h a0 x1 x2 (x3 + (1 : Int32))))
theorem tX11_fitsSeen_2 {X : zX} {g : zG} (C : zC X g yX11_fitsSeen cX11_fitsSeen 4 7 0 0 (some .boolean)) (N : Nat) (n : Nat) : ∀ (h : AH) (a0 : Nat) (x1 : Int32) (x2 : Int32) (x3 : Int32), ZZ X g 4 (0, 0, 0, 0) (fun v : Int32 => some (.int v)) (zfix (fun _ _ _ _ _ => none) (bX11_fitsSeen_2 N) n h a0 x1 x2 x3) h 2 [(0, .ref a0), (1, .int x1), (2, .int x2), (3, .int x3)] [] := by
  induction n with
  | zero => intro h a0 x1 x2 x3; exact z_none
  | succ n hr2 =>
    intro h a0 x1 x2 x3
    show ZZ X g 4 (0, 0, 0, 0) _ (bX11_fitsSeen_2 N (zfix (fun _ _ _ _ _ => none) (bX11_fitsSeen_2 N) n) h a0 x1 x2 x3) h 2 _ _
    unfold bX11_fitsSeen_2
    refine z_iload_n C 3 dX11_fitsSeen_2 rfl ?_
    refine z_aload_n C 0 dX11_fitsSeen_3 rfl ?_
    refine z_getR C qX11_12 dX11_fitsSeen_4 (fun a_1 => ?_)
    refine z_getI C qX11_205 dX11_fitsSeen_7 (fun v_2 => ?_)
    refine z_icmpge C 45 dX11_fitsSeen_10 rfl ?_ ?_
    · refine z_iconst (v := (1 : Int32)) C dX11_fitsSeen_45 rfl ?_
      exact z_zreturn C ⟨rfl, rfl⟩ dX11_fitsSeen_46
    · refine z_aload_n C 0 dX11_fitsSeen_13 rfl ?_
      refine z_getR C qX11_12 dX11_fitsSeen_14 (fun a_3 => ?_)
      refine z_getR C qX11_212 dX11_fitsSeen_17 (fun a_4 => ?_)
      refine z_iload_n C 3 dX11_fitsSeen_20 rfl ?_
      refine z_aaload C (by decide) dX11_fitsSeen_21 (fun a_5 => ?_)
      refine z_iconst (v := (0 : Int32)) C dX11_fitsSeen_22 rfl ?_
      refine z_iaload C dX11_fitsSeen_23 (fun v_6 => ?_)
      refine z_iload_n C 1 dX11_fitsSeen_24 rfl ?_
      refine z_icmpne C 39 dX11_fitsSeen_25 rfl ?_ ?_
      · refine z_iinc (v := x3 + (1 : Int32)) C 3 dX11_fitsSeen_39 [(3, .int (x3 + (1 : Int32))), (0, .ref a0), (1, .int x1), (2, .int x2)] rfl rfl (by decide) rfl ?_
        refine z_goto C 2 dX11_fitsSeen_42 rfl ?_
        exact z_lv _ [1, 2, 3, 0] rfl (hr2 _ a0 x1 x2 (x3 + (1 : Int32)))
      · refine z_aload_n C 0 dX11_fitsSeen_28 rfl ?_
        refine z_iload_n C 3 dX11_fitsSeen_29 rfl ?_
        refine z_iload_n C 2 dX11_fitsSeen_30 rfl ?_
        refine z_bind (fun _ q_9 => ?_)
        refine z_calli (z_runV (As := [.int x3, .int x2]) (rest := []) C mX11_216 (kX11_isSo N h a0 x3 x2) q_9 (Nat.le_of_ble_eq_true rfl) ⟨Nat.zero_le _, Nat.zero_le _⟩ dX11_fitsSeen_31 rfl rfl (Nat.le_of_ble_eq_true rfl)) rfl (fun v_8 h_7 => ?_)
        refine z_ifne C 39 dX11_fitsSeen_34 rfl ?_ ?_
        · refine z_iinc (v := x3 + (1 : Int32)) C 3 dX11_fitsSeen_39 [(3, .int (x3 + (1 : Int32))), (0, .ref a0), (1, .int x1), (2, .int x2)] rfl rfl (by decide) rfl ?_
          refine z_goto C 2 dX11_fitsSeen_42 rfl ?_
          exact z_lv _ [1, 2, 3, 0] rfl (hr2 _ a0 x1 x2 (x3 + (1 : Int32)))
        · refine z_iconst (v := (0 : Int32)) C dX11_fitsSeen_37 rfl ?_
          exact z_zreturn C ⟨rfl, rfl⟩ dX11_fitsSeen_38
def fX11_fitsSeen (N : Nat) (h : AH) (a0 : Nat) (x1 : Int32) (x2 : Int32) : Option (Int32 × AH) :=
  zfix (fun _ _ _ _ _ => none) (bX11_fitsSeen_2 N) N h a0 x1 x2 (0 : Int32)
theorem kX11_fitsSeen {l : Launch} {g : zG} (N : Nat) (h : AH) (a0 : Nat) (x1 : Int32) (x2 : Int32) : zM l g yX11_fitsSeen cX11_fitsSeen 4 (some .boolean) (7) 0 0 (fun v : Int32 => some (.int v)) (fX11_fitsSeen N h a0 x1 x2) h [.ref a0, .int x1, .int x2] := by
  refine zM.of (lv0 := [(0, .ref a0), (1, .int x1), (2, .int x2)]) (by decide) (Nat.le_of_ble_eq_true rfl) rfl (fun X hX C => ?_)
  subst hX
  unfold fX11_fitsSeen
  refine z_iconst (v := (0 : Int32)) C dX11_fitsSeen_0 rfl ?_
  refine z_istore_n C dX11_fitsSeen_1 [(3, .int (0 : Int32)), (0, .ref a0), (1, .int x1), (2, .int x2)] (by decide) rfl ?_
  exact z_lv _ [1, 2, 3, 0] rfl (tX11_fitsSeen_2 C N N _ a0 x1 x2 (0 : Int32))
def bX11_can_30 (N : Nat) (r30 : AH → Nat → Int32 → Int32 → Int32 → Int32 → Int32 → Option (Int32 × AH)) (h : AH) (a0 : Nat) (x1 : Int32) (x2 : Int32) (x3 : Int32) (x4 : Int32) (x5 : Int32) : Option (Int32 × AH) :=
  (if x5 < (0) then
  (if x2 = (0) then
  some (x3, h)
  else
  some (x4, h))
  else
  (zis h a0 11).bind fun _ =>
  zcall (fX11_fitsSeen N h a0 x1 x5) fun v_2 h_1 =>
  (if v_2 = (0) then
  r30 h_1 a0 x1 x2 x3 x4 (x5 + (-1 : Int32))
  else
  r30 h_1 a0 x1 x2 (x3 + (1 : Int32)) x5 (x5 + (-1 : Int32))))
theorem tX11_can_30 {X : zX} {g : zG} (C : zC X g yX11_can cX11_can 6 8 0 0 (some .int)) (N : Nat) (n : Nat) : ∀ (h : AH) (a0 : Nat) (x1 : Int32) (x2 : Int32) (x3 : Int32) (x4 : Int32) (x5 : Int32), ZZ X g 6 (0, 0, 0, 0) (fun v : Int32 => some (.int v)) (zfix (fun _ _ _ _ _ _ _ => none) (bX11_can_30 N) n h a0 x1 x2 x3 x4 x5) h 30 [(0, .ref a0), (1, .int x1), (2, .int x2), (3, .int x3), (4, .int x4), (5, .int x5)] [] := by
  induction n with
  | zero => intro h a0 x1 x2 x3 x4 x5; exact z_none
  | succ n hr30 =>
    intro h a0 x1 x2 x3 x4 x5
    show ZZ X g 6 (0, 0, 0, 0) _ (bX11_can_30 N (zfix (fun _ _ _ _ _ _ _ => none) (bX11_can_30 N) n) h a0 x1 x2 x3 x4 x5) h 30 _ _
    unfold bX11_can_30
    refine z_iload C 5 dX11_can_30 rfl ?_
    refine z_iflt C 58 dX11_can_32 rfl ?_ ?_
    · refine z_iload_n C 2 dX11_can_58 rfl ?_
      refine z_ifne C 66 dX11_can_59 rfl ?_ ?_
      · refine z_iload C 4 dX11_can_66 rfl ?_
        exact z_ireturn C ⟨rfl, rfl⟩ dX11_can_68
      · refine z_iload_n C 3 dX11_can_62 rfl ?_
        refine z_goto C 68 dX11_can_63 rfl ?_
        exact z_ireturn C ⟨rfl, rfl⟩ dX11_can_68
    · refine z_aload_n C 0 dX11_can_35 rfl ?_
      refine z_iload_n C 1 dX11_can_36 rfl ?_
      refine z_iload C 5 dX11_can_37 rfl ?_
      refine z_bind (fun _ q_3 => ?_)
      refine z_calli (z_runV (As := [.int x1, .int x5]) (rest := []) C mX11_223 (kX11_fitsSeen N h a0 x1 x5) q_3 (Nat.le_of_ble_eq_true rfl) ⟨Nat.zero_le _, Nat.zero_le _⟩ dX11_can_39 rfl rfl (Nat.le_of_ble_eq_true rfl)) rfl (fun v_2 h_1 => ?_)
      refine z_ifeq C 52 dX11_can_42 rfl ?_ ?_
      · refine z_iinc (v := x5 + (-1 : Int32)) C 5 dX11_can_52 [(5, .int (x5 + (-1 : Int32))), (0, .ref a0), (1, .int x1), (2, .int x2), (3, .int x3), (4, .int x4)] rfl rfl (by decide) rfl ?_
        refine z_goto C 30 dX11_can_55 rfl ?_
        exact z_lv _ [1, 2, 3, 4, 5, 0] rfl (hr30 _ a0 x1 x2 x3 x4 (x5 + (-1 : Int32)))
      · refine z_iinc (v := x3 + (1 : Int32)) C 3 dX11_can_45 [(3, .int (x3 + (1 : Int32))), (0, .ref a0), (1, .int x1), (2, .int x2), (4, .int x4), (5, .int x5)] rfl rfl (by decide) rfl ?_
        refine z_iload C 5 dX11_can_48 rfl ?_
        refine z_istore C dX11_can_50 [(4, .int x5), (3, .int (x3 + (1 : Int32))), (0, .ref a0), (1, .int x1), (2, .int x2), (5, .int x5)] (by decide) rfl ?_
        refine z_iinc (v := x5 + (-1 : Int32)) C 5 dX11_can_52 [(5, .int (x5 + (-1 : Int32))), (4, .int x5), (3, .int (x3 + (1 : Int32))), (0, .ref a0), (1, .int x1), (2, .int x2)] rfl rfl (by decide) rfl ?_
        refine z_goto C 30 dX11_can_55 rfl ?_
        exact z_lv _ [3, 4, 5, 2, 1, 0] rfl (hr30 _ a0 x1 x2 (x3 + (1 : Int32)) x5 (x5 + (-1 : Int32)))
def fX11_can (N : Nat) (h : AH) (a0 : Nat) (x1 : Int32) (x2 : Int32) : Option (Int32 × AH) :=
  (zgR h a0 11 0).bind fun a_1 =>
  (zis h a_1 6).bind fun _ =>
  zcall (fX6_hasMaster N h a_1 x1) fun v_3 h_2 =>
  (if v_3 = (0) then
  some ((-1 : Int32), h_2)
  else
  zcall (fX11_isPart N h_2 x2) fun v_6 h_5 =>
  (if v_6 = (0) then
  some ((-1 : Int32), h_5)
  else
  zfix (fun _ _ _ _ _ _ _ => none) (bX11_can_30 N) N h_5 a0 x1 x2 (0 : Int32) (-5 : Int32) (9 : Int32)))
theorem kX11_can {l : Launch} {g : zG} (N : Nat) (h : AH) (a0 : Nat) (x1 : Int32) (x2 : Int32) : zM l g yX11_can cX11_can 6 (some .int) (8) 0 0 (fun v : Int32 => some (.int v)) (fX11_can N h a0 x1 x2) h [.ref a0, .int x1, .int x2] := by
  refine zM.of (lv0 := [(0, .ref a0), (1, .int x1), (2, .int x2)]) (by decide) (Nat.le_of_ble_eq_true rfl) rfl (fun X hX C => ?_)
  subst hX
  unfold fX11_can
  refine z_aload_n C 0 dX11_can_0 rfl ?_
  refine z_getR C qX11_12 dX11_can_1 (fun a_1 => ?_)
  refine z_iload_n C 1 dX11_can_4 rfl ?_
  refine z_bind (fun _ q_4 => ?_)
  refine z_calli (z_runV (As := [.int x1]) (rest := []) C mX11_97 (kX6_hasMaster N h a_1 x1) q_4 (Nat.le_of_ble_eq_true rfl) ⟨Nat.zero_le _, Nat.zero_le _⟩ dX11_can_5 rfl rfl (Nat.le_of_ble_eq_true rfl)) rfl (fun v_3 h_2 => ?_)
  refine z_ifeq C 18 dX11_can_8 rfl ?_ ?_
  · refine z_iconst (v := (-1 : Int32)) C dX11_can_18 rfl ?_
    exact z_ireturn C ⟨rfl, rfl⟩ dX11_can_19
  · refine z_iload_n C 2 dX11_can_11 rfl ?_
    refine z_calli (z_runS (As := [.int x2]) (rest := []) C mX11_220 (kX11_isPart N h_2 x2) (Nat.le_of_ble_eq_true rfl) ⟨Nat.zero_le _, Nat.zero_le _⟩ dX11_can_12 rfl rfl (Nat.le_of_ble_eq_true rfl)) rfl (fun v_6 h_5 => ?_)
    refine z_ifne C 20 dX11_can_15 rfl ?_ ?_
    · refine z_iconst (v := (0 : Int32)) C dX11_can_20 rfl ?_
      refine z_istore_n C dX11_can_21 [(3, .int (0 : Int32)), (0, .ref a0), (1, .int x1), (2, .int x2)] (by decide) rfl ?_
      refine z_bipush (v := (-5 : Int32)) C dX11_can_22 rfl ?_
      refine z_istore C dX11_can_24 [(4, .int (-5 : Int32)), (3, .int (0 : Int32)), (0, .ref a0), (1, .int x1), (2, .int x2)] (by decide) rfl ?_
      refine z_bipush (v := (9 : Int32)) C dX11_can_26 rfl ?_
      refine z_istore C dX11_can_28 [(5, .int (9 : Int32)), (4, .int (-5 : Int32)), (3, .int (0 : Int32)), (0, .ref a0), (1, .int x1), (2, .int x2)] (by decide) rfl ?_
      exact z_lv _ [3, 4, 5, 2, 1, 0] rfl (tX11_can_30 C N N _ a0 x1 x2 (0 : Int32) (-5 : Int32) (9 : Int32))
    · refine z_iconst (v := (-1 : Int32)) C dX11_can_18 rfl ?_
      exact z_ireturn C ⟨rfl, rfl⟩ dX11_can_19
def bX11_knew_66 (N : Nat) (h : AH) (x2 : Int32) (x4 : Int32) (x5 : Int32) (s0 : Int32) : Option (Int32 × AH) :=
  (if x4 = (0) then
  (if s0 = (0) then
  some ((0 : Int32), h)
  else
  zcall (fJ6_bitCount_0f7a4 N h x5) fun v_2 h_1 =>
  some ((1 : Int32) <<< (((8 : Int32) - v_2) &&& 31), h_1))
  else
  (if s0 = (0) then
  some ((-5 : Int32), h)
  else
  some (x2, h)))
theorem tX11_knew_66 {X : zX} {g : zG} (C : zC X g yX11_knew cX11_knew 7 7 0 0 (some .int)) (N : Nat) (h : AH) (x2 : Int32) (x4 : Int32) (x5 : Int32) (s0 : Int32) : ZZ X g 7 (0, 0, 0, 0) (fun v : Int32 => some (.int v)) (bX11_knew_66 N h x2 x4 x5 s0) h 66 [(2, .int x2), (4, .int x4), (5, .int x5)] [.int s0] := by
  unfold bX11_knew_66
  refine z_istore C dX11_knew_66 [(6, .int s0), (2, .int x2), (4, .int x4), (5, .int x5)] (by decide) rfl ?_
  refine z_iload C 2 dX11_knew_68 rfl ?_
  refine z_ifne C 93 dX11_knew_70 rfl ?_ ?_
  · refine z_iload C 0 dX11_knew_93 rfl ?_
    refine z_ifeq C 102 dX11_knew_95 rfl ?_ ?_
    · refine z_bipush (v := (-5 : Int32)) C dX11_knew_102 rfl ?_
      exact z_ireturn C ⟨rfl, rfl⟩ dX11_knew_104
    · refine z_iload_n C 1 dX11_knew_98 rfl ?_
      refine z_goto C 104 dX11_knew_99 rfl ?_
      exact z_ireturn C ⟨rfl, rfl⟩ dX11_knew_104
  · refine z_iload C 0 dX11_knew_73 rfl ?_
    refine z_ifeq C 91 dX11_knew_75 rfl ?_ ?_
    · refine z_iconst (v := (0 : Int32)) C dX11_knew_91 rfl ?_
      exact z_ireturn C ⟨rfl, rfl⟩ dX11_knew_92
    · refine z_iconst (v := (1 : Int32)) C dX11_knew_78 rfl ?_
      refine z_bipush (v := (8 : Int32)) C dX11_knew_79 rfl ?_
      refine z_iload C 3 dX11_knew_81 rfl ?_
      refine z_calli (z_runS (As := [.int x5]) (rest := [.int (8 : Int32), .int (1 : Int32)]) C mX11_226 (kJ6_bitCount_0f7a4 N h x5) (Nat.le_of_ble_eq_true rfl) ⟨Nat.zero_le _, Nat.zero_le _⟩ dX11_knew_83 rfl rfl (Nat.le_of_ble_eq_true rfl)) rfl (fun v_2 h_1 => ?_)
      refine z_isub C dX11_knew_86 ?_
      refine z_ishl C dX11_knew_87 ?_
      refine z_goto C 92 dX11_knew_88 rfl ?_
      exact z_ireturn C ⟨rfl, rfl⟩ dX11_knew_92
def fX11_knew (N : Nat) (h : AH) (a0 : Nat) (x1 : Int32) (x2 : Int32) (x3 : Int32) (x4 : Int32) : Option (Int32 × AH) :=
  (zgR h a0 11 0).bind fun a_1 =>
  (zis h a_1 6).bind fun _ =>
  zcall (fX6_hasMaster N h a_1 x1) fun v_3 h_2 =>
  (if v_3 = (0) then
  some ((-1 : Int32), h_2)
  else
  zcall (fX11_isPart N h_2 x4) fun v_6 h_5 =>
  (if v_6 = (0) then
  some ((-1 : Int32), h_5)
  else
  zcall (fX11_isSet N h_5 x2) fun v_8 h_7 =>
  (if v_8 = (0) then
  some ((-2 : Int32), h_7)
  else
  (if x3 < (0) then
  some ((-2 : Int32), h_7)
  else
  (if x3 ≤ (20 : Int32) then
  (zis h_7 a0 11).bind fun _ =>
  zcall (fX11_keptThrough N h_7 a0 x1 (255 : Int32) x3) fun v_10 h_9 =>
  (if (x2 &&& (v_10 ^^^ (-1 : Int32))) = (0) then
  bX11_knew_66 N h_9 x2 x4 v_10 (1 : Int32)
  else
  bX11_knew_66 N h_9 x2 x4 v_10 (0 : Int32))
  else
  some ((-2 : Int32), h_7))))))
theorem kX11_knew {l : Launch} {g : zG} (N : Nat) (h : AH) (a0 : Nat) (x1 : Int32) (x2 : Int32) (x3 : Int32) (x4 : Int32) : zM l g yX11_knew cX11_knew 7 (some .int) (7) 0 0 (fun v : Int32 => some (.int v)) (fX11_knew N h a0 x1 x2 x3 x4) h [.ref a0, .int x1, .int x2, .int x3, .int x4] := by
  refine zM.of (lv0 := [(0, .ref a0), (1, .int x1), (2, .int x2), (3, .int x3), (4, .int x4)]) (by decide) (Nat.le_of_ble_eq_true rfl) rfl (fun X hX C => ?_)
  subst hX
  unfold fX11_knew
  refine z_aload_n C 0 dX11_knew_0 rfl ?_
  refine z_getR C qX11_12 dX11_knew_1 (fun a_1 => ?_)
  refine z_iload_n C 1 dX11_knew_4 rfl ?_
  refine z_bind (fun _ q_4 => ?_)
  refine z_calli (z_runV (As := [.int x1]) (rest := []) C mX11_97 (kX6_hasMaster N h a_1 x1) q_4 (Nat.le_of_ble_eq_true rfl) ⟨Nat.zero_le _, Nat.zero_le _⟩ dX11_knew_5 rfl rfl (Nat.le_of_ble_eq_true rfl)) rfl (fun v_3 h_2 => ?_)
  refine z_ifeq C 19 dX11_knew_8 rfl ?_ ?_
  · refine z_iconst (v := (-1 : Int32)) C dX11_knew_19 rfl ?_
    exact z_ireturn C ⟨rfl, rfl⟩ dX11_knew_20
  · refine z_iload C 4 dX11_knew_11 rfl ?_
    refine z_calli (z_runS (As := [.int x4]) (rest := []) C mX11_220 (kX11_isPart N h_2 x4) (Nat.le_of_ble_eq_true rfl) ⟨Nat.zero_le _, Nat.zero_le _⟩ dX11_knew_13 rfl rfl (Nat.le_of_ble_eq_true rfl)) rfl (fun v_6 h_5 => ?_)
    refine z_ifne C 21 dX11_knew_16 rfl ?_ ?_
    · refine z_iload_n C 2 dX11_knew_21 rfl ?_
      refine z_calli (z_runS (As := [.int x2]) (rest := []) C mX11_135 (kX11_isSet N h_5 x2) (Nat.le_of_ble_eq_true rfl) ⟨Nat.zero_le _, Nat.zero_le _⟩ dX11_knew_22 rfl rfl (Nat.le_of_ble_eq_true rfl)) rfl (fun v_8 h_7 => ?_)
      refine z_ifeq C 38 dX11_knew_25 rfl ?_ ?_
      · refine z_bipush (v := (-2 : Int32)) C dX11_knew_38 rfl ?_
        exact z_ireturn C ⟨rfl, rfl⟩ dX11_knew_40
      · refine z_iload_n C 3 dX11_knew_28 rfl ?_
        refine z_iflt C 38 dX11_knew_29 rfl ?_ ?_
        · refine z_bipush (v := (-2 : Int32)) C dX11_knew_38 rfl ?_
          exact z_ireturn C ⟨rfl, rfl⟩ dX11_knew_40
        · refine z_iload_n C 3 dX11_knew_32 rfl ?_
          refine z_bipush (v := (20 : Int32)) C dX11_knew_33 rfl ?_
          refine z_icmple C 41 dX11_knew_35 rfl ?_ ?_
          · refine z_aload_n C 0 dX11_knew_41 rfl ?_
            refine z_iload_n C 1 dX11_knew_42 rfl ?_
            refine z_sipush (v := (255 : Int32)) C dX11_knew_43 rfl ?_
            refine z_iload_n C 3 dX11_knew_46 rfl ?_
            refine z_bind (fun _ q_11 => ?_)
            refine z_calli (z_runV (As := [.int x1, .int (255 : Int32), .int x3]) (rest := []) C mX11_196 (kX11_keptThrough N h_7 a0 x1 (255 : Int32) x3) q_11 (Nat.le_of_ble_eq_true rfl) ⟨Nat.zero_le _, Nat.zero_le _⟩ dX11_knew_47 rfl rfl (Nat.le_of_ble_eq_true rfl)) rfl (fun v_10 h_9 => ?_)
            refine z_istore C dX11_knew_50 [(5, .int v_10), (0, .ref a0), (1, .int x1), (2, .int x2), (3, .int x3), (4, .int x4)] (by decide) rfl ?_
            refine z_iload_n C 3 dX11_knew_52 rfl ?_
            refine z_iload C 0 dX11_knew_53 rfl ?_
            refine z_iconst (v := (-1 : Int32)) C dX11_knew_55 rfl ?_
            refine z_ixor C dX11_knew_56 ?_
            refine z_iand C dX11_knew_57 ?_
            refine z_ifne C 65 dX11_knew_58 rfl ?_ ?_
            · refine z_iconst (v := (0 : Int32)) C dX11_knew_65 rfl ?_
              exact z_lv _ [3, 5, 0] rfl (tX11_knew_66 C N _ x2 x4 v_10 (0 : Int32))
            · refine z_iconst (v := (1 : Int32)) C dX11_knew_61 rfl ?_
              refine z_goto C 66 dX11_knew_62 rfl ?_
              exact z_lv _ [3, 5, 0] rfl (tX11_knew_66 C N _ x2 x4 v_10 (1 : Int32))
          · refine z_bipush (v := (-2 : Int32)) C dX11_knew_38 rfl ?_
            exact z_ireturn C ⟨rfl, rfl⟩ dX11_knew_40
    · refine z_iconst (v := (-1 : Int32)) C dX11_knew_19 rfl ?_
      exact z_ireturn C ⟨rfl, rfl⟩ dX11_knew_20
def bX11_partOfFraction_37 (N : Nat) (h : AH) (x0 : Int32) (x1 : Int32) (x2 : Int32) (x3 : Int32) : Option (Int64 × AH) :=
  (if x2 = (0) then
  if x3 = 0 then none else
  some ((x0 / x3).toInt64, h)
  else
  if x3 = 0 then none else
  some ((x1 / x3).toInt64, h))
theorem tX11_partOfFraction_37 {X : zX} {g : zG} (C : zC X g yX11_partOfFraction cX11_partOfFraction 4 1 0 0 (some .long)) (N : Nat) (h : AH) (x0 : Int32) (x1 : Int32) (x2 : Int32) (x3 : Int32) : ZZ X g 4 (0, 0, 0, 0) (fun v : Int64 => some (.long v)) (bX11_partOfFraction_37 N h x0 x1 x2 x3) h 37 [(0, .int x0), (1, .int x1), (2, .int x2), (3, .int x3)] [] := by
  unfold bX11_partOfFraction_37
  refine z_iload_n C 2 dX11_partOfFraction_37 rfl ?_
  refine z_ifne C 48 dX11_partOfFraction_38 rfl ?_ ?_
  · refine z_iload_n C 1 dX11_partOfFraction_48 rfl ?_
    refine z_iload_n C 3 dX11_partOfFraction_49 rfl ?_
    refine z_ite (fun _ => z_none) (fun q_1 => ?_)
    refine z_idiv C dX11_partOfFraction_50 q_1 ?_
    refine z_i2l C dX11_partOfFraction_51 ?_
    exact z_lreturn C ⟨rfl, rfl⟩ dX11_partOfFraction_52
  · refine z_iload_n C 0 dX11_partOfFraction_41 rfl ?_
    refine z_iload_n C 3 dX11_partOfFraction_42 rfl ?_
    refine z_ite (fun _ => z_none) (fun q_2 => ?_)
    refine z_idiv C dX11_partOfFraction_43 q_2 ?_
    refine z_i2l C dX11_partOfFraction_44 ?_
    refine z_goto C 52 dX11_partOfFraction_45 rfl ?_
    exact z_lreturn C ⟨rfl, rfl⟩ dX11_partOfFraction_52
def bX11_partOfFraction_14 (N : Nat) (r14 : AH → Int32 → Int32 → Int32 → Int32 → Option (Int64 × AH)) (h : AH) (x0 : Int32) (x1 : Int32) (x2 : Int32) (x3 : Int32) : Option (Int64 × AH) :=
  (if x3 ≤ (1 : Int32) then
  bX11_partOfFraction_37 N h x0 x1 x2 x3
  else
  if x3 = 0 then none else
  (if (x0 - x0 / x3 * x3) = (0) then
  if x3 = 0 then none else
  (if (x1 - x1 / x3 * x3) = (0) then
  bX11_partOfFraction_37 N h x0 x1 x2 x3
  else
  r14 h x0 x1 x2 (x3 + (-1 : Int32)))
  else
  r14 h x0 x1 x2 (x3 + (-1 : Int32))))
theorem tX11_partOfFraction_14 {X : zX} {g : zG} (C : zC X g yX11_partOfFraction cX11_partOfFraction 4 1 0 0 (some .long)) (N : Nat) (n : Nat) : ∀ (h : AH) (x0 : Int32) (x1 : Int32) (x2 : Int32) (x3 : Int32), ZZ X g 4 (0, 0, 0, 0) (fun v : Int64 => some (.long v)) (zfix (fun _ _ _ _ _ => none) (bX11_partOfFraction_14 N) n h x0 x1 x2 x3) h 14 [(0, .int x0), (1, .int x1), (2, .int x2), (3, .int x3)] [] := by
  induction n with
  | zero => intro h x0 x1 x2 x3; exact z_none
  | succ n hr14 =>
    intro h x0 x1 x2 x3
    show ZZ X g 4 (0, 0, 0, 0) _ (bX11_partOfFraction_14 N (zfix (fun _ _ _ _ _ => none) (bX11_partOfFraction_14 N) n) h x0 x1 x2 x3) h 14 _ _
    unfold bX11_partOfFraction_14
    refine z_iload_n C 3 dX11_partOfFraction_14 rfl ?_
    refine z_iconst (v := (1 : Int32)) C dX11_partOfFraction_15 rfl ?_
    refine z_icmple C 37 dX11_partOfFraction_16 rfl ?_ ?_
    · exact z_lv _ [0, 1, 2, 3] rfl (tX11_partOfFraction_37 C N _ x0 x1 x2 x3)
    · refine z_iload_n C 0 dX11_partOfFraction_19 rfl ?_
      refine z_iload_n C 3 dX11_partOfFraction_20 rfl ?_
      refine z_ite (fun _ => z_none) (fun q_1 => ?_)
      refine z_irem C dX11_partOfFraction_21 q_1 ?_
      refine z_ifne C 31 dX11_partOfFraction_22 rfl ?_ ?_
      · refine z_iinc (v := x3 + (-1 : Int32)) C 3 dX11_partOfFraction_31 [(3, .int (x3 + (-1 : Int32))), (0, .int x0), (1, .int x1), (2, .int x2)] rfl rfl (by decide) rfl ?_
        refine z_goto C 14 dX11_partOfFraction_34 rfl ?_
        exact z_lv _ [1, 2, 3, 0] rfl (hr14 _ x0 x1 x2 (x3 + (-1 : Int32)))
      · refine z_iload_n C 1 dX11_partOfFraction_25 rfl ?_
        refine z_iload_n C 3 dX11_partOfFraction_26 rfl ?_
        refine z_ite (fun _ => z_none) (fun q_2 => ?_)
        refine z_irem C dX11_partOfFraction_27 q_2 ?_
        refine z_ifeq C 37 dX11_partOfFraction_28 rfl ?_ ?_
        · exact z_lv _ [0, 1, 2, 3] rfl (tX11_partOfFraction_37 C N _ x0 x1 x2 x3)
        · refine z_iinc (v := x3 + (-1 : Int32)) C 3 dX11_partOfFraction_31 [(3, .int (x3 + (-1 : Int32))), (0, .int x0), (1, .int x1), (2, .int x2)] rfl rfl (by decide) rfl ?_
          refine z_goto C 14 dX11_partOfFraction_34 rfl ?_
          exact z_lv _ [1, 2, 3, 0] rfl (hr14 _ x0 x1 x2 (x3 + (-1 : Int32)))
def fX11_partOfFraction (N : Nat) (h : AH) (x0 : Int32) (x1 : Int32) (x2 : Int32) : Option (Int64 × AH) :=
  (if x0 < (0) then
  some ((-9223372036854775808 : Int64), h)
  else
  (if (0) < x1 then
  zfix (fun _ _ _ _ _ => none) (bX11_partOfFraction_14 N) N h x0 x1 x2 x1
  else
  some ((-9223372036854775808 : Int64), h)))
theorem kX11_partOfFraction {l : Launch} {g : zG} (N : Nat) (h : AH) (x0 : Int32) (x1 : Int32) (x2 : Int32) : zM l g yX11_partOfFraction cX11_partOfFraction 4 (some .long) (1) 0 0 (fun v : Int64 => some (.long v)) (fX11_partOfFraction N h x0 x1 x2) h [.int x0, .int x1, .int x2] := by
  refine zM.of (lv0 := [(0, .int x0), (1, .int x1), (2, .int x2)]) (by decide) (Nat.le_of_ble_eq_true rfl) rfl (fun X hX C => ?_)
  subst hX
  unfold fX11_partOfFraction
  refine z_iload_n C 0 dX11_partOfFraction_0 rfl ?_
  refine z_iflt C 8 dX11_partOfFraction_1 rfl ?_ ?_
  · refine z_ldc2_w (v := (-9223372036854775808 : Int64)) C dX11_partOfFraction_8 (tblG_at 801 (by decide +kernel) (by decide +kernel)) ?_
    exact z_lreturn C ⟨rfl, rfl⟩ dX11_partOfFraction_11
  · refine z_iload_n C 1 dX11_partOfFraction_4 rfl ?_
    refine z_ifgt C 12 dX11_partOfFraction_5 rfl ?_ ?_
    · refine z_iload_n C 1 dX11_partOfFraction_12 rfl ?_
      refine z_istore_n C dX11_partOfFraction_13 [(3, .int x1), (0, .int x0), (1, .int x1), (2, .int x2)] (by decide) rfl ?_
      exact z_lv _ [1, 2, 3, 0] rfl (tX11_partOfFraction_14 C N N _ x0 x1 x2 x1)
    · refine z_ldc2_w (v := (-9223372036854775808 : Int64)) C dX11_partOfFraction_8 (tblG_at 801 (by decide +kernel) (by decide +kernel)) ?_
      exact z_lreturn C ⟨rfl, rfl⟩ dX11_partOfFraction_11
def bX11_odds_23 (N : Nat) (r23 : AH → Nat → Int32 → Int32 → Int32 → Int32 → Option (Int64 × AH)) (h : AH) (a0 : Nat) (x1 : Int32) (x2 : Int32) (x3 : Int32) (x4 : Int32) : Option (Int64 × AH) :=
  (zgR h a0 11 0).bind fun a_1 =>
  (zgI h a_1 6 9).bind fun v_2 =>
  (if v_2 ≤ x4 then
  (zgR h a0 11 0).bind fun a_3 =>
  (zgI h a_3 6 9).bind fun v_4 =>
  zcall (fX11_partOfFraction N h x3 v_4 x2) fun v_6 h_5 =>
  some (v_6, h_5)
  else
  (zgR h a0 11 0).bind fun a_7 =>
  (zis h a_7 6).bind fun _ =>
  zcall (fX6_heldWithout N h a_7 x4) fun v_9 h_8 =>
  (if (x1 &&& (v_9 ^^^ (-1 : Int32))) = (0) then
  r23 h_8 a0 x1 x2 (x3 + (1 : Int32)) (x4 + (1 : Int32))
  else
  r23 h_8 a0 x1 x2 x3 (x4 + (1 : Int32))))
theorem tX11_odds_23 {X : zX} {g : zG} (C : zC X g yX11_odds cX11_odds 5 3 0 0 (some .long)) (N : Nat) (n : Nat) : ∀ (h : AH) (a0 : Nat) (x1 : Int32) (x2 : Int32) (x3 : Int32) (x4 : Int32), ZZ X g 5 (0, 0, 0, 0) (fun v : Int64 => some (.long v)) (zfix (fun _ _ _ _ _ _ => none) (bX11_odds_23 N) n h a0 x1 x2 x3 x4) h 23 [(0, .ref a0), (1, .int x1), (2, .int x2), (3, .int x3), (4, .int x4)] [] := by
  induction n with
  | zero => intro h a0 x1 x2 x3 x4; exact z_none
  | succ n hr23 =>
    intro h a0 x1 x2 x3 x4
    show ZZ X g 5 (0, 0, 0, 0) _ (bX11_odds_23 N (zfix (fun _ _ _ _ _ _ => none) (bX11_odds_23 N) n) h a0 x1 x2 x3 x4) h 23 _ _
    unfold bX11_odds_23
    refine z_iload C 4 dX11_odds_23 rfl ?_
    refine z_aload_n C 0 dX11_odds_25 rfl ?_
    refine z_getR C qX11_12 dX11_odds_26 (fun a_1 => ?_)
    refine z_getI C qX11_233 dX11_odds_29 (fun v_2 => ?_)
    refine z_icmpge C 60 dX11_odds_32 rfl ?_ ?_
    · refine z_iload_n C 3 dX11_odds_60 rfl ?_
      refine z_aload_n C 0 dX11_odds_61 rfl ?_
      refine z_getR C qX11_12 dX11_odds_62 (fun a_3 => ?_)
      refine z_getI C qX11_233 dX11_odds_65 (fun v_4 => ?_)
      refine z_iload_n C 2 dX11_odds_68 rfl ?_
      refine z_calll (z_runS (As := [.int x3, .int v_4, .int x2]) (rest := []) C mX11_236 (kX11_partOfFraction N h x3 v_4 x2) (Nat.le_of_ble_eq_true rfl) ⟨Nat.zero_le _, Nat.zero_le _⟩ dX11_odds_69 rfl rfl (Nat.le_of_ble_eq_true rfl)) rfl (fun v_6 h_5 => ?_)
      exact z_lreturn C ⟨rfl, rfl⟩ dX11_odds_72
    · refine z_iload_n C 1 dX11_odds_35 rfl ?_
      refine z_aload_n C 0 dX11_odds_36 rfl ?_
      refine z_getR C qX11_12 dX11_odds_37 (fun a_7 => ?_)
      refine z_iload C 4 dX11_odds_40 rfl ?_
      refine z_bind (fun _ q_10 => ?_)
      refine z_calli (z_runV (As := [.int x4]) (rest := [.int x1]) C mX11_182 (kX6_heldWithout N h a_7 x4) q_10 (Nat.le_of_ble_eq_true rfl) ⟨Nat.zero_le _, Nat.zero_le _⟩ dX11_odds_42 rfl rfl (Nat.le_of_ble_eq_true rfl)) rfl (fun v_9 h_8 => ?_)
      refine z_iconst (v := (-1 : Int32)) C dX11_odds_45 rfl ?_
      refine z_ixor C dX11_odds_46 ?_
      refine z_iand C dX11_odds_47 ?_
      refine z_ifne C 54 dX11_odds_48 rfl ?_ ?_
      · refine z_iinc (v := x4 + (1 : Int32)) C 4 dX11_odds_54 [(4, .int (x4 + (1 : Int32))), (0, .ref a0), (1, .int x1), (2, .int x2), (3, .int x3)] rfl rfl (by decide) rfl ?_
        refine z_goto C 23 dX11_odds_57 rfl ?_
        exact z_lv _ [1, 2, 3, 4, 0] rfl (hr23 _ a0 x1 x2 x3 (x4 + (1 : Int32)))
      · refine z_iinc (v := x3 + (1 : Int32)) C 3 dX11_odds_51 [(3, .int (x3 + (1 : Int32))), (0, .ref a0), (1, .int x1), (2, .int x2), (4, .int x4)] rfl rfl (by decide) rfl ?_
        refine z_iinc (v := x4 + (1 : Int32)) C 4 dX11_odds_54 [(4, .int (x4 + (1 : Int32))), (3, .int (x3 + (1 : Int32))), (0, .ref a0), (1, .int x1), (2, .int x2)] rfl rfl (by decide) rfl ?_
        refine z_goto C 23 dX11_odds_57 rfl ?_
        exact z_lv _ [2, 3, 4, 1, 0] rfl (hr23 _ a0 x1 x2 (x3 + (1 : Int32)) (x4 + (1 : Int32)))
def fX11_odds (N : Nat) (h : AH) (a0 : Nat) (x1 : Int32) (x2 : Int32) : Option (Int64 × AH) :=
  zcall (fX11_isSet N h x1) fun v_2 h_1 =>
  (if v_2 = (0) then
  some ((-9223372036854775808 : Int64), h_1)
  else
  zcall (fX11_isPart N h_1 x2) fun v_4 h_3 =>
  (if v_4 = (0) then
  some ((-9223372036854775808 : Int64), h_3)
  else
  zfix (fun _ _ _ _ _ _ => none) (bX11_odds_23 N) N h_3 a0 x1 x2 (0 : Int32) (0 : Int32)))
theorem kX11_odds {l : Launch} {g : zG} (N : Nat) (h : AH) (a0 : Nat) (x1 : Int32) (x2 : Int32) : zM l g yX11_odds cX11_odds 5 (some .long) (3) 0 0 (fun v : Int64 => some (.long v)) (fX11_odds N h a0 x1 x2) h [.ref a0, .int x1, .int x2] := by
  refine zM.of (lv0 := [(0, .ref a0), (1, .int x1), (2, .int x2)]) (by decide) (Nat.le_of_ble_eq_true rfl) rfl (fun X hX C => ?_)
  subst hX
  unfold fX11_odds
  refine z_iload_n C 1 dX11_odds_0 rfl ?_
  refine z_calli (z_runS (As := [.int x1]) (rest := []) C mX11_135 (kX11_isSet N h x1) (Nat.le_of_ble_eq_true rfl) ⟨Nat.zero_le _, Nat.zero_le _⟩ dX11_odds_1 rfl rfl (Nat.le_of_ble_eq_true rfl)) rfl (fun v_2 h_1 => ?_)
  refine z_ifeq C 14 dX11_odds_4 rfl ?_ ?_
  · refine z_ldc2_w (v := (-9223372036854775808 : Int64)) C dX11_odds_14 (tblG_at 801 (by decide +kernel) (by decide +kernel)) ?_
    exact z_lreturn C ⟨rfl, rfl⟩ dX11_odds_17
  · refine z_iload_n C 2 dX11_odds_7 rfl ?_
    refine z_calli (z_runS (As := [.int x2]) (rest := []) C mX11_220 (kX11_isPart N h_1 x2) (Nat.le_of_ble_eq_true rfl) ⟨Nat.zero_le _, Nat.zero_le _⟩ dX11_odds_8 rfl rfl (Nat.le_of_ble_eq_true rfl)) rfl (fun v_4 h_3 => ?_)
    refine z_ifne C 18 dX11_odds_11 rfl ?_ ?_
    · refine z_iconst (v := (0 : Int32)) C dX11_odds_18 rfl ?_
      refine z_istore_n C dX11_odds_19 [(3, .int (0 : Int32)), (0, .ref a0), (1, .int x1), (2, .int x2)] (by decide) rfl ?_
      refine z_iconst (v := (0 : Int32)) C dX11_odds_20 rfl ?_
      refine z_istore C dX11_odds_21 [(4, .int (0 : Int32)), (3, .int (0 : Int32)), (0, .ref a0), (1, .int x1), (2, .int x2)] (by decide) rfl ?_
      exact z_lv _ [2, 3, 4, 1, 0] rfl (tX11_odds_23 C N N _ a0 x1 x2 (0 : Int32) (0 : Int32))
    · refine z_ldc2_w (v := (-9223372036854775808 : Int64)) C dX11_odds_14 (tblG_at 801 (by decide +kernel) (by decide +kernel)) ?_
      exact z_lreturn C ⟨rfl, rfl⟩ dX11_odds_17
def fX11_mean (N : Nat) (h : AH) (a0 : Nat) (x1 : Int32) (x2 : Int32) : Option (Int64 × AH) :=
  (if x1 < (0) then
  some ((-9223372036854775808 : Int64), h)
  else
  (if (60 : Int32) < x1 then
  some ((-9223372036854775808 : Int64), h)
  else
  zcall (fX11_isPart N h x2) fun v_2 h_1 =>
  (if v_2 = (0) then
  some ((-9223372036854775808 : Int64), h_1)
  else
  (zis h_1 a0 11).bind fun _ =>
  zcall (fX11_dreamOfNow N h_1 a0) fun _ h_3 =>
  (zgR h_3 a0 11 12).bind fun a_5 =>
  (zgR h_3 a0 11 0).bind fun a_6 =>
  (zgI h_3 a_6 6 12).bind fun v_7 =>
  (zis h_3 a0 11).bind fun _ =>
  zcall (fX11_sleep N h_3 a0 a_5 v_7 x1) fun _ h_8 =>
  (zgR h_8 a0 11 0).bind fun a_10 =>
  (zgR h_8 a0 11 12).bind fun a_11 =>
  (zis h_8 a_10 6).bind fun _ =>
  zcall (fX6_knownIn N h_8 a_10 a_11) fun v_13 h_12 =>
  (zgR h_12 a0 11 0).bind fun a_15 =>
  (zgI h_12 a_15 6 0).bind fun v_16 =>
  zcall (fX11_partOfFraction N h_12 v_13 v_16 x2) fun v_18 h_17 =>
  some (v_18, h_17))))
theorem kX11_mean {l : Launch} {g : zG} (N : Nat) (h : AH) (a0 : Nat) (x1 : Int32) (x2 : Int32) : zM l g yX11_mean cX11_mean 3 (some .long) (7) 0 0 (fun v : Int64 => some (.long v)) (fX11_mean N h a0 x1 x2) h [.ref a0, .int x1, .int x2] := by
  refine zM.of (lv0 := [(0, .ref a0), (1, .int x1), (2, .int x2)]) (by decide) (Nat.le_of_ble_eq_true rfl) rfl (fun X hX C => ?_)
  subst hX
  unfold fX11_mean
  refine z_iload_n C 1 dX11_mean_0 rfl ?_
  refine z_iflt C 17 dX11_mean_1 rfl ?_ ?_
  · refine z_ldc2_w (v := (-9223372036854775808 : Int64)) C dX11_mean_17 (tblG_at 801 (by decide +kernel) (by decide +kernel)) ?_
    exact z_lreturn C ⟨rfl, rfl⟩ dX11_mean_20
  · refine z_iload_n C 1 dX11_mean_4 rfl ?_
    refine z_bipush (v := (60 : Int32)) C dX11_mean_5 rfl ?_
    refine z_icmpgt C 17 dX11_mean_7 rfl ?_ ?_
    · refine z_ldc2_w (v := (-9223372036854775808 : Int64)) C dX11_mean_17 (tblG_at 801 (by decide +kernel) (by decide +kernel)) ?_
      exact z_lreturn C ⟨rfl, rfl⟩ dX11_mean_20
    · refine z_iload_n C 2 dX11_mean_10 rfl ?_
      refine z_calli (z_runS (As := [.int x2]) (rest := []) C mX11_220 (kX11_isPart N h x2) (Nat.le_of_ble_eq_true rfl) ⟨Nat.zero_le _, Nat.zero_le _⟩ dX11_mean_11 rfl rfl (Nat.le_of_ble_eq_true rfl)) rfl (fun v_2 h_1 => ?_)
      refine z_ifne C 21 dX11_mean_14 rfl ?_ ?_
      · refine z_aload_n C 0 dX11_mean_21 rfl ?_
        refine z_bind (fun _ q_4 => ?_)
        refine z_callv (z_runV (As := []) (rest := []) C mX11_199 (kX11_dreamOfNow N h_1 a0) q_4 (Nat.le_of_ble_eq_true rfl) ⟨Nat.zero_le _, Nat.zero_le _⟩ dX11_mean_22 rfl rfl (Nat.le_of_ble_eq_true rfl)) rfl (fun _ h_3 => ?_)
        refine z_aload_n C 0 dX11_mean_25 rfl ?_
        refine z_aload_n C 0 dX11_mean_26 rfl ?_
        refine z_getR C qX11_89 dX11_mean_27 (fun a_5 => ?_)
        refine z_aload_n C 0 dX11_mean_30 rfl ?_
        refine z_getR C qX11_12 dX11_mean_31 (fun a_6 => ?_)
        refine z_getI C qX11_120 dX11_mean_34 (fun v_7 => ?_)
        refine z_iload_n C 1 dX11_mean_37 rfl ?_
        refine z_bind (fun _ q_9 => ?_)
        refine z_callv (z_runV (As := [.ref a_5, .int v_7, .int x1]) (rest := []) C mX11_192 (kX11_sleep N h_3 a0 a_5 v_7 x1) q_9 (Nat.le_of_ble_eq_true rfl) ⟨Nat.zero_le _, Nat.zero_le _⟩ dX11_mean_38 rfl rfl (Nat.le_of_ble_eq_true rfl)) rfl (fun _ h_8 => ?_)
        refine z_aload_n C 0 dX11_mean_41 rfl ?_
        refine z_getR C qX11_12 dX11_mean_42 (fun a_10 => ?_)
        refine z_aload_n C 0 dX11_mean_45 rfl ?_
        refine z_getR C qX11_89 dX11_mean_46 (fun a_11 => ?_)
        refine z_bind (fun _ q_14 => ?_)
        refine z_calli (z_runV (As := [.ref a_11]) (rest := []) C mX11_202 (kX6_knownIn N h_8 a_10 a_11) q_14 (Nat.le_of_ble_eq_true rfl) ⟨Nat.zero_le _, Nat.zero_le _⟩ dX11_mean_49 rfl rfl (Nat.le_of_ble_eq_true rfl)) rfl (fun v_13 h_12 => ?_)
        refine z_aload_n C 0 dX11_mean_52 rfl ?_
        refine z_getR C qX11_12 dX11_mean_53 (fun a_15 => ?_)
        refine z_getI C qX11_240 dX11_mean_56 (fun v_16 => ?_)
        refine z_iload_n C 2 dX11_mean_59 rfl ?_
        refine z_calll (z_runS (As := [.int v_13, .int v_16, .int x2]) (rest := []) C mX11_236 (kX11_partOfFraction N h_12 v_13 v_16 x2) (Nat.le_of_ble_eq_true rfl) ⟨Nat.zero_le _, Nat.zero_le _⟩ dX11_mean_60 rfl rfl (Nat.le_of_ble_eq_true rfl)) rfl (fun v_18 h_17 => ?_)
        exact z_lreturn C ⟨rfl, rfl⟩ dX11_mean_63
      · refine z_ldc2_w (v := (-9223372036854775808 : Int64)) C dX11_mean_17 (tblG_at 801 (by decide +kernel) (by decide +kernel)) ?_
        exact z_lreturn C ⟨rfl, rfl⟩ dX11_mean_20
def bX11_plan_61 (N : Nat) (h : AH) (a0 : Nat) (x1 : Int32) (x2 : Int32) : Option (Int32 × AH) :=
  (if x1 = (2 : Int32) then
  (zgR h a0 11 0).bind fun a_5 =>
  (zis h a_5 6).bind fun _ =>
  zcall (fX6_hasMaster N h a_5 x2) fun v_7 h_6 =>
  (if v_7 = (0) then
  some ((-1 : Int32), h_6)
  else
  (zgR h_6 a0 11 0).bind fun a_9 =>
  (zis h_6 a_9 6).bind fun _ =>
  zcall (fX6_addPlan N h_6 a_9 x1 x2) fun v_11 h_10 =>
  some (v_11, h_10))
  else
  (zgR h a0 11 0).bind fun a_1 =>
  (zis h a_1 6).bind fun _ =>
  zcall (fX6_addPlan N h a_1 x1 x2) fun v_3 h_2 =>
  some (v_3, h_2))
theorem tX11_plan_61 {X : zX} {g : zG} (C : zC X g yX11_plan cX11_plan 3 2 0 0 (some .int)) (N : Nat) (h : AH) (a0 : Nat) (x1 : Int32) (x2 : Int32) : ZZ X g 3 (0, 0, 0, 0) (fun v : Int32 => some (.int v)) (bX11_plan_61 N h a0 x1 x2) h 61 [(0, .ref a0), (1, .int x1), (2, .int x2)] [] := by
  unfold bX11_plan_61
  refine z_iload_n C 1 dX11_plan_61 rfl ?_
  refine z_iconst (v := (2 : Int32)) C dX11_plan_62 rfl ?_
  refine z_icmpne C 79 dX11_plan_63 rfl ?_ ?_
  · refine z_aload_n C 0 dX11_plan_79 rfl ?_
    refine z_getR C qX11_12 dX11_plan_80 (fun a_1 => ?_)
    refine z_iload_n C 1 dX11_plan_83 rfl ?_
    refine z_iload_n C 2 dX11_plan_84 rfl ?_
    refine z_bind (fun _ q_4 => ?_)
    refine z_calli (z_runV (As := [.int x1, .int x2]) (rest := []) C mX11_246 (kX6_addPlan N h a_1 x1 x2) q_4 (Nat.le_of_ble_eq_true rfl) ⟨Nat.zero_le _, Nat.zero_le _⟩ dX11_plan_85 rfl rfl (Nat.le_of_ble_eq_true rfl)) rfl (fun v_3 h_2 => ?_)
    exact z_ireturn C ⟨rfl, rfl⟩ dX11_plan_88
  · refine z_aload_n C 0 dX11_plan_66 rfl ?_
    refine z_getR C qX11_12 dX11_plan_67 (fun a_5 => ?_)
    refine z_iload_n C 2 dX11_plan_70 rfl ?_
    refine z_bind (fun _ q_8 => ?_)
    refine z_calli (z_runV (As := [.int x2]) (rest := []) C mX11_97 (kX6_hasMaster N h a_5 x2) q_8 (Nat.le_of_ble_eq_true rfl) ⟨Nat.zero_le _, Nat.zero_le _⟩ dX11_plan_71 rfl rfl (Nat.le_of_ble_eq_true rfl)) rfl (fun v_7 h_6 => ?_)
    refine z_ifne C 79 dX11_plan_74 rfl ?_ ?_
    · refine z_aload_n C 0 dX11_plan_79 rfl ?_
      refine z_getR C qX11_12 dX11_plan_80 (fun a_9 => ?_)
      refine z_iload_n C 1 dX11_plan_83 rfl ?_
      refine z_iload_n C 2 dX11_plan_84 rfl ?_
      refine z_bind (fun _ q_12 => ?_)
      refine z_calli (z_runV (As := [.int x1, .int x2]) (rest := []) C mX11_246 (kX6_addPlan N h_6 a_9 x1 x2) q_12 (Nat.le_of_ble_eq_true rfl) ⟨Nat.zero_le _, Nat.zero_le _⟩ dX11_plan_85 rfl rfl (Nat.le_of_ble_eq_true rfl)) rfl (fun v_11 h_10 => ?_)
      exact z_ireturn C ⟨rfl, rfl⟩ dX11_plan_88
    · refine z_iconst (v := (-1 : Int32)) C dX11_plan_77 rfl ?_
      exact z_ireturn C ⟨rfl, rfl⟩ dX11_plan_78
def fX11_plan (N : Nat) (h : AH) (a0 : Nat) (x1 : Int32) (x2 : Int32) : Option (Int32 × AH) :=
  (if x1 = (-1 : Int32) then
  (zgR h a0 11 0).bind fun a_7 =>
  (zput h a_7 6 16 (.int (0 : Int32))).bind fun h_8 =>
  some ((0 : Int32), h_8)
  else
  (if x1 < (0) then
  some ((-1 : Int32), h)
  else
  (if x1 ≤ (2 : Int32) then
  (if x1 = (1 : Int32) then
  (if x2 < (0) then
  some ((-1 : Int32), h)
  else
  (zgR h a0 11 0).bind fun a_1 =>
  (zis h a_1 6).bind fun _ =>
  zcall (fX6_hasMaster N h a_1 (x2 / (10 : Int32))) fun v_3 h_2 =>
  (if v_3 = (0) then
  some ((-1 : Int32), h_2)
  else
  zcall (fX11_isFact N h_2 (x2 - x2 / (10 : Int32) * (10 : Int32))) fun v_6 h_5 =>
  (if v_6 = (0) then
  some ((-1 : Int32), h_5)
  else
  bX11_plan_61 N h_5 a0 x1 x2)))
  else
  bX11_plan_61 N h a0 x1 x2)
  else
  some ((-1 : Int32), h))))
theorem kX11_plan {l : Launch} {g : zG} (N : Nat) (h : AH) (a0 : Nat) (x1 : Int32) (x2 : Int32) : zM l g yX11_plan cX11_plan 3 (some .int) (2) 0 0 (fun v : Int32 => some (.int v)) (fX11_plan N h a0 x1 x2) h [.ref a0, .int x1, .int x2] := by
  refine zM.of (lv0 := [(0, .ref a0), (1, .int x1), (2, .int x2)]) (by decide) (Nat.le_of_ble_eq_true rfl) rfl (fun X hX C => ?_)
  subst hX
  unfold fX11_plan
  refine z_iload_n C 1 dX11_plan_0 rfl ?_
  refine z_iconst (v := (-1 : Int32)) C dX11_plan_1 rfl ?_
  refine z_icmpne C 15 dX11_plan_2 rfl ?_ ?_
  · refine z_iload_n C 1 dX11_plan_15 rfl ?_
    refine z_iflt C 24 dX11_plan_16 rfl ?_ ?_
    · refine z_iconst (v := (-1 : Int32)) C dX11_plan_24 rfl ?_
      exact z_ireturn C ⟨rfl, rfl⟩ dX11_plan_25
    · refine z_iload_n C 1 dX11_plan_19 rfl ?_
      refine z_iconst (v := (2 : Int32)) C dX11_plan_20 rfl ?_
      refine z_icmple C 26 dX11_plan_21 rfl ?_ ?_
      · refine z_iload_n C 1 dX11_plan_26 rfl ?_
        refine z_iconst (v := (1 : Int32)) C dX11_plan_27 rfl ?_
        refine z_icmpne C 61 dX11_plan_28 rfl ?_ ?_
        · exact z_lv _ [0, 1, 2] rfl (tX11_plan_61 C N _ a0 x1 x2)
        · refine z_iload_n C 2 dX11_plan_31 rfl ?_
          refine z_iflt C 59 dX11_plan_32 rfl ?_ ?_
          · refine z_iconst (v := (-1 : Int32)) C dX11_plan_59 rfl ?_
            exact z_ireturn C ⟨rfl, rfl⟩ dX11_plan_60
          · refine z_aload_n C 0 dX11_plan_35 rfl ?_
            refine z_getR C qX11_12 dX11_plan_36 (fun a_1 => ?_)
            refine z_iload_n C 2 dX11_plan_39 rfl ?_
            refine z_bipush (v := (10 : Int32)) C dX11_plan_40 rfl ?_
            refine z_idiv C dX11_plan_42 (by decide) ?_
            refine z_bind (fun _ q_4 => ?_)
            refine z_calli (z_runV (As := [.int (x2 / (10 : Int32))]) (rest := []) C mX11_97 (kX6_hasMaster N h a_1 (x2 / (10 : Int32))) q_4 (Nat.le_of_ble_eq_true rfl) ⟨Nat.zero_le _, Nat.zero_le _⟩ dX11_plan_43 rfl rfl (Nat.le_of_ble_eq_true rfl)) rfl (fun v_3 h_2 => ?_)
            refine z_ifeq C 59 dX11_plan_46 rfl ?_ ?_
            · refine z_iconst (v := (-1 : Int32)) C dX11_plan_59 rfl ?_
              exact z_ireturn C ⟨rfl, rfl⟩ dX11_plan_60
            · refine z_iload_n C 2 dX11_plan_49 rfl ?_
              refine z_bipush (v := (10 : Int32)) C dX11_plan_50 rfl ?_
              refine z_irem C dX11_plan_52 (by decide) ?_
              refine z_calli (z_runS (As := [.int (x2 - x2 / (10 : Int32) * (10 : Int32))]) (rest := []) C mX11_117 (kX11_isFact N h_2 (x2 - x2 / (10 : Int32) * (10 : Int32))) (Nat.le_of_ble_eq_true rfl) ⟨Nat.zero_le _, Nat.zero_le _⟩ dX11_plan_53 rfl rfl (Nat.le_of_ble_eq_true rfl)) rfl (fun v_6 h_5 => ?_)
              refine z_ifne C 61 dX11_plan_56 rfl ?_ ?_
              · exact z_lv _ [0, 1, 2] rfl (tX11_plan_61 C N _ a0 x1 x2)
              · refine z_iconst (v := (-1 : Int32)) C dX11_plan_59 rfl ?_
                exact z_ireturn C ⟨rfl, rfl⟩ dX11_plan_60
      · refine z_iconst (v := (-1 : Int32)) C dX11_plan_24 rfl ?_
        exact z_ireturn C ⟨rfl, rfl⟩ dX11_plan_25
  · refine z_aload_n C 0 dX11_plan_5 rfl ?_
    refine z_getR C qX11_12 dX11_plan_6 (fun a_7 => ?_)
    refine z_iconst (v := (0 : Int32)) C dX11_plan_9 rfl ?_
    refine z_putI C pX11_243 dX11_plan_10 (fun h_8 => ?_)
    refine z_iconst (v := (0 : Int32)) C dX11_plan_13 rfl ?_
    exact z_ireturn C ⟨rfl, rfl⟩ dX11_plan_14
def bX11_dreamOfRow_45 (N : Nat) (h : AH) (a0 : Nat) (x2 : Int32) (x3 : Int32) (s0 : Int32) : Option (Unit × AH) :=
  (zgR h a0 11 0).bind fun a_1 =>
  (zis h a_1 6).bind fun _ =>
  zcall (fX6_hasMaster N h a_1 s0) fun v_3 h_2 =>
  (if v_3 = (0) then
  some ((), h_2)
  else
  (zgR h_2 a0 11 12).bind fun a_5 =>
  (if x2 = (0) then
  (zast 0 h_2 a_5 s0 (0 : Int32)).bind fun h_6 =>
  some ((), h_6)
  else
  (zgR h_2 a0 11 12).bind fun a_7 =>
  (zald 0 h_2 a_7 s0).bind fun v_8 =>
  (zast 0 h_2 a_5 s0 (v_8 ||| ((1 : Int32) <<< ((x3 - x3 / (10 : Int32) * (10 : Int32)) &&& 31)))).bind fun h_9 =>
  some ((), h_9)))
theorem tX11_dreamOfRow_45 {X : zX} {g : zG} (C : zC X g yX11_dreamOfRow cX11_dreamOfRow 5 2 0 0 none) (N : Nat) (h : AH) (a0 : Nat) (x2 : Int32) (x3 : Int32) (s0 : Int32) : ZZ X g 5 (0, 0, 0, 0) (fun _ : Unit => none) (bX11_dreamOfRow_45 N h a0 x2 x3 s0) h 45 [(0, .ref a0), (2, .int x2), (3, .int x3)] [.int s0] := by
  unfold bX11_dreamOfRow_45
  refine z_istore C dX11_dreamOfRow_45 [(4, .int s0), (0, .ref a0), (2, .int x2), (3, .int x3)] (by decide) rfl ?_
  refine z_aload_n C 1 dX11_dreamOfRow_47 rfl ?_
  refine z_getR C qX11_12 dX11_dreamOfRow_48 (fun a_1 => ?_)
  refine z_iload C 0 dX11_dreamOfRow_51 rfl ?_
  refine z_bind (fun _ q_4 => ?_)
  refine z_calli (z_runV (As := [.int s0]) (rest := []) C mX11_97 (kX6_hasMaster N h a_1 s0) q_4 (Nat.le_of_ble_eq_true rfl) ⟨Nat.zero_le _, Nat.zero_le _⟩ dX11_dreamOfRow_53 rfl rfl (Nat.le_of_ble_eq_true rfl)) rfl (fun v_3 h_2 => ?_)
  refine z_ifeq C 88 dX11_dreamOfRow_56 rfl ?_ ?_
  · exact z_return C ⟨rfl, rfl⟩ dX11_dreamOfRow_88
  · refine z_aload_n C 1 dX11_dreamOfRow_59 rfl ?_
    refine z_getR C qX11_89 dX11_dreamOfRow_60 (fun a_5 => ?_)
    refine z_iload C 0 dX11_dreamOfRow_63 rfl ?_
    refine z_iload_n C 2 dX11_dreamOfRow_65 rfl ?_
    refine z_ifeq C 86 dX11_dreamOfRow_66 rfl ?_ ?_
    · refine z_iconst (v := (0 : Int32)) C dX11_dreamOfRow_86 rfl ?_
      refine z_iastore C dX11_dreamOfRow_87 (fun h_6 => ?_)
      exact z_return C ⟨rfl, rfl⟩ dX11_dreamOfRow_88
    · refine z_aload_n C 1 dX11_dreamOfRow_69 rfl ?_
      refine z_getR C qX11_89 dX11_dreamOfRow_70 (fun a_7 => ?_)
      refine z_iload C 0 dX11_dreamOfRow_73 rfl ?_
      refine z_iaload C dX11_dreamOfRow_75 (fun v_8 => ?_)
      refine z_iconst (v := (1 : Int32)) C dX11_dreamOfRow_76 rfl ?_
      refine z_iload_n C 3 dX11_dreamOfRow_77 rfl ?_
      refine z_bipush (v := (10 : Int32)) C dX11_dreamOfRow_78 rfl ?_
      refine z_irem C dX11_dreamOfRow_80 (by decide) ?_
      refine z_ishl C dX11_dreamOfRow_81 ?_
      refine z_ior C dX11_dreamOfRow_82 ?_
      refine z_goto C 87 dX11_dreamOfRow_83 rfl ?_
      refine z_iastore C dX11_dreamOfRow_87 (fun h_9 => ?_)
      exact z_return C ⟨rfl, rfl⟩ dX11_dreamOfRow_88
def bX11_dreamOfRow_20 (N : Nat) (h : AH) (a0 : Nat) (x1 : Int32) (s0 : Int32) : Option (Unit × AH) :=
  (zgR h a0 11 0).bind fun a_1 =>
  (zgR h a_1 6 17).bind fun a_2 =>
  (zaald 7 h a_2 x1).bind fun a_3 =>
  (zald 0 h a_3 (1 : Int32)).bind fun v_4 =>
  (if s0 = (0) then
  bX11_dreamOfRow_45 N h a0 s0 v_4 v_4
  else
  bX11_dreamOfRow_45 N h a0 s0 v_4 (v_4 / (10 : Int32)))
theorem tX11_dreamOfRow_20 {X : zX} {g : zG} (C : zC X g yX11_dreamOfRow cX11_dreamOfRow 5 2 0 0 none) (N : Nat) (h : AH) (a0 : Nat) (x1 : Int32) (s0 : Int32) : ZZ X g 5 (0, 0, 0, 0) (fun _ : Unit => none) (bX11_dreamOfRow_20 N h a0 x1 s0) h 20 [(0, .ref a0), (1, .int x1)] [.int s0] := by
  unfold bX11_dreamOfRow_20
  refine z_istore_n C dX11_dreamOfRow_20 [(2, .int s0), (0, .ref a0), (1, .int x1)] (by decide) rfl ?_
  refine z_aload_n C 1 dX11_dreamOfRow_21 rfl ?_
  refine z_getR C qX11_12 dX11_dreamOfRow_22 (fun a_1 => ?_)
  refine z_getR C qX11_249 dX11_dreamOfRow_25 (fun a_2 => ?_)
  refine z_iload_n C 2 dX11_dreamOfRow_28 rfl ?_
  refine z_aaload C (by decide) dX11_dreamOfRow_29 (fun a_3 => ?_)
  refine z_iconst (v := (1 : Int32)) C dX11_dreamOfRow_30 rfl ?_
  refine z_iaload C dX11_dreamOfRow_31 (fun v_4 => ?_)
  refine z_istore_n C dX11_dreamOfRow_32 [(3, .int v_4), (2, .int s0), (0, .ref a0), (1, .int x1)] (by decide) rfl ?_
  refine z_iload_n C 1 dX11_dreamOfRow_33 rfl ?_
  refine z_ifeq C 44 dX11_dreamOfRow_34 rfl ?_ ?_
  · refine z_iload_n C 0 dX11_dreamOfRow_44 rfl ?_
    exact z_lv _ [2, 1, 0] rfl (tX11_dreamOfRow_45 C N _ a0 s0 v_4 v_4)
  · refine z_iload_n C 0 dX11_dreamOfRow_37 rfl ?_
    refine z_bipush (v := (10 : Int32)) C dX11_dreamOfRow_38 rfl ?_
    refine z_idiv C dX11_dreamOfRow_40 (by decide) ?_
    refine z_goto C 45 dX11_dreamOfRow_41 rfl ?_
    exact z_lv _ [2, 1, 0] rfl (tX11_dreamOfRow_45 C N _ a0 s0 v_4 (v_4 / (10 : Int32)))
def fX11_dreamOfRow (N : Nat) (h : AH) (a0 : Nat) (x1 : Int32) : Option (Unit × AH) :=
  (zgR h a0 11 0).bind fun a_1 =>
  (zgR h a_1 6 17).bind fun a_2 =>
  (zaald 7 h a_2 x1).bind fun a_3 =>
  (zald 0 h a_3 (0 : Int32)).bind fun v_4 =>
  (if v_4 = (1 : Int32) then
  bX11_dreamOfRow_20 N h a0 x1 (1 : Int32)
  else
  bX11_dreamOfRow_20 N h a0 x1 (0 : Int32))
theorem kX11_dreamOfRow {l : Launch} {g : zG} (N : Nat) (h : AH) (a0 : Nat) (x1 : Int32) : zM l g yX11_dreamOfRow cX11_dreamOfRow 5 none (2) 0 0 (fun _ : Unit => none) (fX11_dreamOfRow N h a0 x1) h [.ref a0, .int x1] := by
  refine zM.of (lv0 := [(0, .ref a0), (1, .int x1)]) (by decide) (Nat.le_of_ble_eq_true rfl) rfl (fun X hX C => ?_)
  subst hX
  unfold fX11_dreamOfRow
  refine z_aload_n C 0 dX11_dreamOfRow_0 rfl ?_
  refine z_getR C qX11_12 dX11_dreamOfRow_1 (fun a_1 => ?_)
  refine z_getR C qX11_249 dX11_dreamOfRow_4 (fun a_2 => ?_)
  refine z_iload_n C 1 dX11_dreamOfRow_7 rfl ?_
  refine z_aaload C (by decide) dX11_dreamOfRow_8 (fun a_3 => ?_)
  refine z_iconst (v := (0 : Int32)) C dX11_dreamOfRow_9 rfl ?_
  refine z_iaload C dX11_dreamOfRow_10 (fun v_4 => ?_)
  refine z_iconst (v := (1 : Int32)) C dX11_dreamOfRow_11 rfl ?_
  refine z_icmpne C 19 dX11_dreamOfRow_12 rfl ?_ ?_
  · refine z_iconst (v := (0 : Int32)) C dX11_dreamOfRow_19 rfl ?_
    exact z_lv _ [0, 1] rfl (tX11_dreamOfRow_20 C N _ a0 x1 (0 : Int32))
  · refine z_iconst (v := (1 : Int32)) C dX11_dreamOfRow_15 rfl ?_
    refine z_goto C 20 dX11_dreamOfRow_16 rfl ?_
    exact z_lv _ [0, 1] rfl (tX11_dreamOfRow_20 C N _ a0 x1 (1 : Int32))
def bX11_ends_17 (N : Nat) (r17 : AH → Nat → Int32 → Int32 → Int32 → Option (Int32 × AH)) (h : AH) (a0 : Nat) (x1 : Int32) (x2 : Int32) (x3 : Int32) : Option (Int32 × AH) :=
  (zgR h a0 11 0).bind fun a_1 =>
  (zgI h a_1 6 16).bind fun v_2 =>
  (if v_2 ≤ x3 then
  (if x1 = (0) then
  (zgR h a0 11 0).bind fun a_8 =>
  (zgR h a0 11 12).bind fun a_9 =>
  (zis h a_8 6).bind fun _ =>
  zcall (fX6_knownIn N h a_8 a_9) fun v_11 h_10 =>
  some (v_11, h_10)
  else
  (zgR h a0 11 0).bind fun a_3 =>
  (zgR h a0 11 12).bind fun a_4 =>
  (zis h a_3 6).bind fun _ =>
  zcall (fX6_doneWith N h a_3 a_4) fun v_6 h_5 =>
  some (v_6, h_5))
  else
  (zgR h a0 11 0).bind fun a_13 =>
  (zgR h a_13 6 17).bind fun a_14 =>
  (zaald 7 h a_14 x3).bind fun a_15 =>
  (zald 0 h a_15 (0 : Int32)).bind fun v_16 =>
  (if v_16 = (0) then
  (zgR h a0 11 12).bind fun a_19 =>
  (zgR h a0 11 0).bind fun a_20 =>
  (zgI h a_20 6 12).bind fun v_21 =>
  (zis h a0 11).bind fun _ =>
  zcall (fX11_sleep N h a0 a_19 (v_21 + x2) (1 : Int32)) fun _ h_22 =>
  r17 h_22 a0 x1 (x2 + (1 : Int32)) (x3 + (1 : Int32))
  else
  (zis h a0 11).bind fun _ =>
  zcall (fX11_dreamOfRow N h a0 x3) fun _ h_17 =>
  r17 h_17 a0 x1 x2 (x3 + (1 : Int32))))
theorem tX11_ends_17 {X : zX} {g : zG} (C : zC X g yX11_ends cX11_ends 4 7 0 0 (some .int)) (N : Nat) (n : Nat) : ∀ (h : AH) (a0 : Nat) (x1 : Int32) (x2 : Int32) (x3 : Int32), ZZ X g 4 (0, 0, 0, 0) (fun v : Int32 => some (.int v)) (zfix (fun _ _ _ _ _ => none) (bX11_ends_17 N) n h a0 x1 x2 x3) h 17 [(0, .ref a0), (1, .int x1), (2, .int x2), (3, .int x3)] [] := by
  induction n with
  | zero => intro h a0 x1 x2 x3; exact z_none
  | succ n hr17 =>
    intro h a0 x1 x2 x3
    show ZZ X g 4 (0, 0, 0, 0) _ (bX11_ends_17 N (zfix (fun _ _ _ _ _ => none) (bX11_ends_17 N) n) h a0 x1 x2 x3) h 17 _ _
    unfold bX11_ends_17
    refine z_iload_n C 3 dX11_ends_17 rfl ?_
    refine z_aload_n C 0 dX11_ends_18 rfl ?_
    refine z_getR C qX11_12 dX11_ends_19 (fun a_1 => ?_)
    refine z_getI C qX11_243 dX11_ends_22 (fun v_2 => ?_)
    refine z_icmpge C 77 dX11_ends_25 rfl ?_ ?_
    · refine z_iload_n C 1 dX11_ends_77 rfl ?_
      refine z_ifne C 95 dX11_ends_78 rfl ?_ ?_
      · refine z_aload_n C 0 dX11_ends_95 rfl ?_
        refine z_getR C qX11_12 dX11_ends_96 (fun a_3 => ?_)
        refine z_aload_n C 0 dX11_ends_99 rfl ?_
        refine z_getR C qX11_89 dX11_ends_100 (fun a_4 => ?_)
        refine z_bind (fun _ q_7 => ?_)
        refine z_calli (z_runV (As := [.ref a_4]) (rest := []) C mX11_170 (kX6_doneWith N h a_3 a_4) q_7 (Nat.le_of_ble_eq_true rfl) ⟨Nat.zero_le _, Nat.zero_le _⟩ dX11_ends_103 rfl rfl (Nat.le_of_ble_eq_true rfl)) rfl (fun v_6 h_5 => ?_)
        exact z_ireturn C ⟨rfl, rfl⟩ dX11_ends_106
      · refine z_aload_n C 0 dX11_ends_81 rfl ?_
        refine z_getR C qX11_12 dX11_ends_82 (fun a_8 => ?_)
        refine z_aload_n C 0 dX11_ends_85 rfl ?_
        refine z_getR C qX11_89 dX11_ends_86 (fun a_9 => ?_)
        refine z_bind (fun _ q_12 => ?_)
        refine z_calli (z_runV (As := [.ref a_9]) (rest := []) C mX11_202 (kX6_knownIn N h a_8 a_9) q_12 (Nat.le_of_ble_eq_true rfl) ⟨Nat.zero_le _, Nat.zero_le _⟩ dX11_ends_89 rfl rfl (Nat.le_of_ble_eq_true rfl)) rfl (fun v_11 h_10 => ?_)
        refine z_goto C 106 dX11_ends_92 rfl ?_
        exact z_ireturn C ⟨rfl, rfl⟩ dX11_ends_106
    · refine z_aload_n C 0 dX11_ends_28 rfl ?_
      refine z_getR C qX11_12 dX11_ends_29 (fun a_13 => ?_)
      refine z_getR C qX11_249 dX11_ends_32 (fun a_14 => ?_)
      refine z_iload_n C 3 dX11_ends_35 rfl ?_
      refine z_aaload C (by decide) dX11_ends_36 (fun a_15 => ?_)
      refine z_iconst (v := (0 : Int32)) C dX11_ends_37 rfl ?_
      refine z_iaload C dX11_ends_38 (fun v_16 => ?_)
      refine z_ifne C 66 dX11_ends_39 rfl ?_ ?_
      · refine z_aload_n C 0 dX11_ends_66 rfl ?_
        refine z_iload_n C 3 dX11_ends_67 rfl ?_
        refine z_bind (fun _ q_18 => ?_)
        refine z_callv (z_runV (As := [.int x3]) (rest := []) C mX11_252 (kX11_dreamOfRow N h a0 x3) q_18 (Nat.le_of_ble_eq_true rfl) ⟨Nat.zero_le _, Nat.zero_le _⟩ dX11_ends_68 rfl rfl (Nat.le_of_ble_eq_true rfl)) rfl (fun _ h_17 => ?_)
        refine z_iinc (v := x3 + (1 : Int32)) C 3 dX11_ends_71 [(3, .int (x3 + (1 : Int32))), (0, .ref a0), (1, .int x1), (2, .int x2)] rfl rfl (by decide) rfl ?_
        refine z_goto C 17 dX11_ends_74 rfl ?_
        exact z_lv _ [1, 2, 3, 0] rfl (hr17 _ a0 x1 x2 (x3 + (1 : Int32)))
      · refine z_aload_n C 0 dX11_ends_42 rfl ?_
        refine z_aload_n C 0 dX11_ends_43 rfl ?_
        refine z_getR C qX11_89 dX11_ends_44 (fun a_19 => ?_)
        refine z_aload_n C 0 dX11_ends_47 rfl ?_
        refine z_getR C qX11_12 dX11_ends_48 (fun a_20 => ?_)
        refine z_getI C qX11_120 dX11_ends_51 (fun v_21 => ?_)
        refine z_iload_n C 2 dX11_ends_54 rfl ?_
        refine z_iadd C dX11_ends_55 ?_
        refine z_iconst (v := (1 : Int32)) C dX11_ends_56 rfl ?_
        refine z_bind (fun _ q_23 => ?_)
        refine z_callv (z_runV (As := [.ref a_19, .int (v_21 + x2), .int (1 : Int32)]) (rest := []) C mX11_192 (kX11_sleep N h a0 a_19 (v_21 + x2) (1 : Int32)) q_23 (Nat.le_of_ble_eq_true rfl) ⟨Nat.zero_le _, Nat.zero_le _⟩ dX11_ends_57 rfl rfl (Nat.le_of_ble_eq_true rfl)) rfl (fun _ h_22 => ?_)
        refine z_iinc (v := x2 + (1 : Int32)) C 2 dX11_ends_60 [(2, .int (x2 + (1 : Int32))), (0, .ref a0), (1, .int x1), (3, .int x3)] rfl rfl (by decide) rfl ?_
        refine z_goto C 71 dX11_ends_63 rfl ?_
        refine z_iinc (v := x3 + (1 : Int32)) C 3 dX11_ends_71 [(3, .int (x3 + (1 : Int32))), (2, .int (x2 + (1 : Int32))), (0, .ref a0), (1, .int x1)] rfl rfl (by decide) rfl ?_
        refine z_goto C 17 dX11_ends_74 rfl ?_
        exact z_lv _ [2, 3, 1, 0] rfl (hr17 _ a0 x1 (x2 + (1 : Int32)) (x3 + (1 : Int32)))
def fX11_ends (N : Nat) (h : AH) (a0 : Nat) (x1 : Int32) : Option (Int32 × AH) :=
  zcall (fX11_isPart N h x1) fun v_2 h_1 =>
  (if v_2 = (0) then
  some ((-1 : Int32), h_1)
  else
  (zis h_1 a0 11).bind fun _ =>
  zcall (fX11_dreamOfNow N h_1 a0) fun _ h_3 =>
  zfix (fun _ _ _ _ _ => none) (bX11_ends_17 N) N h_3 a0 x1 (0 : Int32) (0 : Int32))
theorem kX11_ends {l : Launch} {g : zG} (N : Nat) (h : AH) (a0 : Nat) (x1 : Int32) : zM l g yX11_ends cX11_ends 4 (some .int) (7) 0 0 (fun v : Int32 => some (.int v)) (fX11_ends N h a0 x1) h [.ref a0, .int x1] := by
  refine zM.of (lv0 := [(0, .ref a0), (1, .int x1)]) (by decide) (Nat.le_of_ble_eq_true rfl) rfl (fun X hX C => ?_)
  subst hX
  unfold fX11_ends
  refine z_iload_n C 1 dX11_ends_0 rfl ?_
  refine z_calli (z_runS (As := [.int x1]) (rest := []) C mX11_220 (kX11_isPart N h x1) (Nat.le_of_ble_eq_true rfl) ⟨Nat.zero_le _, Nat.zero_le _⟩ dX11_ends_1 rfl rfl (Nat.le_of_ble_eq_true rfl)) rfl (fun v_2 h_1 => ?_)
  refine z_ifne C 9 dX11_ends_4 rfl ?_ ?_
  · refine z_aload_n C 0 dX11_ends_9 rfl ?_
    refine z_bind (fun _ q_4 => ?_)
    refine z_callv (z_runV (As := []) (rest := []) C mX11_199 (kX11_dreamOfNow N h_1 a0) q_4 (Nat.le_of_ble_eq_true rfl) ⟨Nat.zero_le _, Nat.zero_le _⟩ dX11_ends_10 rfl rfl (Nat.le_of_ble_eq_true rfl)) rfl (fun _ h_3 => ?_)
    refine z_iconst (v := (0 : Int32)) C dX11_ends_13 rfl ?_
    refine z_istore_n C dX11_ends_14 [(2, .int (0 : Int32)), (0, .ref a0), (1, .int x1)] (by decide) rfl ?_
    refine z_iconst (v := (0 : Int32)) C dX11_ends_15 rfl ?_
    refine z_istore_n C dX11_ends_16 [(3, .int (0 : Int32)), (2, .int (0 : Int32)), (0, .ref a0), (1, .int x1)] (by decide) rfl ?_
    exact z_lv _ [2, 3, 1, 0] rfl (tX11_ends_17 C N N _ a0 x1 (0 : Int32) (0 : Int32))
  · refine z_iconst (v := (-1 : Int32)) C dX11_ends_7 rfl ?_
    exact z_ireturn C ⟨rfl, rfl⟩ dX11_ends_8
def fX11_book (N : Nat) (h : AH) (a0 : Nat) (x1 : Int32) (x2 : Int32) : Option (Int32 × AH) :=
  (if x1 = (-1 : Int32) then
  (zgR h a0 11 0).bind fun a_11 =>
  (zput h a_11 6 18 (.int (0 : Int32))).bind fun h_12 =>
  some ((0 : Int32), h_12)
  else
  (zgR h a0 11 0).bind fun a_1 =>
  (zis h a_1 6).bind fun _ =>
  zcall (fX6_hasMaster N h a_1 x1) fun v_3 h_2 =>
  (if v_3 = (0) then
  some ((-1 : Int32), h_2)
  else
  zcall (fX11_isSet N h_2 x2) fun v_6 h_5 =>
  (if v_6 = (0) then
  some ((-2 : Int32), h_5)
  else
  (zgR h_5 a0 11 0).bind fun a_7 =>
  (zis h_5 a_7 6).bind fun _ =>
  zcall (fX6_addBook N h_5 a_7 x1 x2) fun v_9 h_8 =>
  some (v_9, h_8))))
theorem kX11_book {l : Launch} {g : zG} (N : Nat) (h : AH) (a0 : Nat) (x1 : Int32) (x2 : Int32) : zM l g yX11_book cX11_book 3 (some .int) (2) 0 0 (fun v : Int32 => some (.int v)) (fX11_book N h a0 x1 x2) h [.ref a0, .int x1, .int x2] := by
  refine zM.of (lv0 := [(0, .ref a0), (1, .int x1), (2, .int x2)]) (by decide) (Nat.le_of_ble_eq_true rfl) rfl (fun X hX C => ?_)
  subst hX
  unfold fX11_book
  refine z_iload_n C 1 dX11_book_0 rfl ?_
  refine z_iconst (v := (-1 : Int32)) C dX11_book_1 rfl ?_
  refine z_icmpne C 15 dX11_book_2 rfl ?_ ?_
  · refine z_aload_n C 0 dX11_book_15 rfl ?_
    refine z_getR C qX11_12 dX11_book_16 (fun a_1 => ?_)
    refine z_iload_n C 1 dX11_book_19 rfl ?_
    refine z_bind (fun _ q_4 => ?_)
    refine z_calli (z_runV (As := [.int x1]) (rest := []) C mX11_97 (kX6_hasMaster N h a_1 x1) q_4 (Nat.le_of_ble_eq_true rfl) ⟨Nat.zero_le _, Nat.zero_le _⟩ dX11_book_20 rfl rfl (Nat.le_of_ble_eq_true rfl)) rfl (fun v_3 h_2 => ?_)
    refine z_ifne C 28 dX11_book_23 rfl ?_ ?_
    · refine z_iload_n C 2 dX11_book_28 rfl ?_
      refine z_calli (z_runS (As := [.int x2]) (rest := []) C mX11_135 (kX11_isSet N h_2 x2) (Nat.le_of_ble_eq_true rfl) ⟨Nat.zero_le _, Nat.zero_le _⟩ dX11_book_29 rfl rfl (Nat.le_of_ble_eq_true rfl)) rfl (fun v_6 h_5 => ?_)
      refine z_ifne C 38 dX11_book_32 rfl ?_ ?_
      · refine z_aload_n C 0 dX11_book_38 rfl ?_
        refine z_getR C qX11_12 dX11_book_39 (fun a_7 => ?_)
        refine z_iload_n C 1 dX11_book_42 rfl ?_
        refine z_iload_n C 2 dX11_book_43 rfl ?_
        refine z_bind (fun _ q_10 => ?_)
        refine z_calli (z_runV (As := [.int x1, .int x2]) (rest := []) C mX11_259 (kX6_addBook N h_5 a_7 x1 x2) q_10 (Nat.le_of_ble_eq_true rfl) ⟨Nat.zero_le _, Nat.zero_le _⟩ dX11_book_44 rfl rfl (Nat.le_of_ble_eq_true rfl)) rfl (fun v_9 h_8 => ?_)
        exact z_ireturn C ⟨rfl, rfl⟩ dX11_book_47
      · refine z_bipush (v := (-2 : Int32)) C dX11_book_35 rfl ?_
        exact z_ireturn C ⟨rfl, rfl⟩ dX11_book_37
    · refine z_iconst (v := (-1 : Int32)) C dX11_book_26 rfl ?_
      exact z_ireturn C ⟨rfl, rfl⟩ dX11_book_27
  · refine z_aload_n C 0 dX11_book_5 rfl ?_
    refine z_getR C qX11_12 dX11_book_6 (fun a_11 => ?_)
    refine z_iconst (v := (0 : Int32)) C dX11_book_9 rfl ?_
    refine z_putI C pX11_256 dX11_book_10 (fun h_12 => ?_)
    refine z_iconst (v := (0 : Int32)) C dX11_book_13 rfl ?_
    exact z_ireturn C ⟨rfl, rfl⟩ dX11_book_14
def bX11_looked_2 (N : Nat) (r2 : AH → Nat → Int32 → Option (Int32 × AH)) (h : AH) (a0 : Nat) (x1 : Int32) : Option (Int32 × AH) :=
  (zgR h a0 11 0).bind fun a_1 =>
  (zgI h a_1 6 18).bind fun v_2 =>
  (if v_2 ≤ x1 then
  some ((-5 : Int32), h)
  else
  (zgR h a0 11 0).bind fun a_3 =>
  (zgR h a_3 6 19).bind fun a_4 =>
  (zaald 7 h a_4 x1).bind fun a_5 =>
  (zald 0 h a_5 (0 : Int32)).bind fun v_6 =>
  (zgR h a0 11 0).bind fun a_7 =>
  (zis h a_7 6).bind fun _ =>
  zcall (fX6_hasMaster N h a_7 v_6) fun v_9 h_8 =>
  (if v_9 = (0) then
  r2 h_8 a0 (x1 + (1 : Int32))
  else
  (zgR h_8 a0 11 0).bind fun a_11 =>
  (zgR h_8 a_11 6 3).bind fun a_12 =>
  (zald 0 h_8 a_12 v_6).bind fun v_13 =>
  (zgR h_8 a0 11 0).bind fun a_14 =>
  (zgR h_8 a_14 6 19).bind fun a_15 =>
  (zaald 7 h_8 a_15 x1).bind fun a_16 =>
  (zald 0 h_8 a_16 (1 : Int32)).bind fun v_17 =>
  (if v_13 = v_17 then
  r2 h_8 a0 (x1 + (1 : Int32))
  else
  some (x1, h_8))))
theorem tX11_looked_2 {X : zX} {g : zG} (C : zC X g yX11_looked cX11_looked 3 2 0 0 (some .int)) (N : Nat) (n : Nat) : ∀ (h : AH) (a0 : Nat) (x1 : Int32), ZZ X g 3 (0, 0, 0, 0) (fun v : Int32 => some (.int v)) (zfix (fun _ _ _ => none) (bX11_looked_2 N) n h a0 x1) h 2 [(0, .ref a0), (1, .int x1)] [] := by
  induction n with
  | zero => intro h a0 x1; exact z_none
  | succ n hr2 =>
    intro h a0 x1
    show ZZ X g 3 (0, 0, 0, 0) _ (bX11_looked_2 N (zfix (fun _ _ _ => none) (bX11_looked_2 N) n) h a0 x1) h 2 _ _
    unfold bX11_looked_2
    refine z_iload_n C 1 dX11_looked_2 rfl ?_
    refine z_aload_n C 0 dX11_looked_3 rfl ?_
    refine z_getR C qX11_12 dX11_looked_4 (fun a_1 => ?_)
    refine z_getI C qX11_256 dX11_looked_7 (fun v_2 => ?_)
    refine z_icmpge C 67 dX11_looked_10 rfl ?_ ?_
    · refine z_bipush (v := (-5 : Int32)) C dX11_looked_67 rfl ?_
      exact z_ireturn C ⟨rfl, rfl⟩ dX11_looked_69
    · refine z_aload_n C 0 dX11_looked_13 rfl ?_
      refine z_getR C qX11_12 dX11_looked_14 (fun a_3 => ?_)
      refine z_getR C qX11_262 dX11_looked_17 (fun a_4 => ?_)
      refine z_iload_n C 1 dX11_looked_20 rfl ?_
      refine z_aaload C (by decide) dX11_looked_21 (fun a_5 => ?_)
      refine z_iconst (v := (0 : Int32)) C dX11_looked_22 rfl ?_
      refine z_iaload C dX11_looked_23 (fun v_6 => ?_)
      refine z_istore_n C dX11_looked_24 [(2, .int v_6), (0, .ref a0), (1, .int x1)] (by decide) rfl ?_
      refine z_aload_n C 1 dX11_looked_25 rfl ?_
      refine z_getR C qX11_12 dX11_looked_26 (fun a_7 => ?_)
      refine z_iload_n C 0 dX11_looked_29 rfl ?_
      refine z_bind (fun _ q_10 => ?_)
      refine z_calli (z_runV (As := [.int v_6]) (rest := []) C mX11_97 (kX6_hasMaster N h a_7 v_6) q_10 (Nat.le_of_ble_eq_true rfl) ⟨Nat.zero_le _, Nat.zero_le _⟩ dX11_looked_30 rfl rfl (Nat.le_of_ble_eq_true rfl)) rfl (fun v_9 h_8 => ?_)
      refine z_ifeq C 61 dX11_looked_33 rfl ?_ ?_
      · refine z_iinc (v := x1 + (1 : Int32)) C 2 dX11_looked_61 [(1, .int (x1 + (1 : Int32))), (2, .int v_6), (0, .ref a0)] rfl rfl (by decide) rfl ?_
        refine z_goto C 2 dX11_looked_64 rfl ?_
        exact z_lv _ [2, 0] rfl (hr2 _ a0 (x1 + (1 : Int32)))
      · refine z_aload_n C 1 dX11_looked_36 rfl ?_
        refine z_getR C qX11_12 dX11_looked_37 (fun a_11 => ?_)
        refine z_getR C qX11_110 dX11_looked_40 (fun a_12 => ?_)
        refine z_iload_n C 0 dX11_looked_43 rfl ?_
        refine z_iaload C dX11_looked_44 (fun v_13 => ?_)
        refine z_aload_n C 1 dX11_looked_45 rfl ?_
        refine z_getR C qX11_12 dX11_looked_46 (fun a_14 => ?_)
        refine z_getR C qX11_262 dX11_looked_49 (fun a_15 => ?_)
        refine z_iload_n C 2 dX11_looked_52 rfl ?_
        refine z_aaload C (by decide) dX11_looked_53 (fun a_16 => ?_)
        refine z_iconst (v := (1 : Int32)) C dX11_looked_54 rfl ?_
        refine z_iaload C dX11_looked_55 (fun v_17 => ?_)
        refine z_icmpeq C 61 dX11_looked_56 rfl ?_ ?_
        · refine z_iinc (v := x1 + (1 : Int32)) C 2 dX11_looked_61 [(1, .int (x1 + (1 : Int32))), (2, .int v_6), (0, .ref a0)] rfl rfl (by decide) rfl ?_
          refine z_goto C 2 dX11_looked_64 rfl ?_
          exact z_lv _ [2, 0] rfl (hr2 _ a0 (x1 + (1 : Int32)))
        · refine z_iload_n C 2 dX11_looked_59 rfl ?_
          exact z_ireturn C ⟨rfl, rfl⟩ dX11_looked_60
def fX11_looked (N : Nat) (h : AH) (a0 : Nat) : Option (Int32 × AH) :=
  zfix (fun _ _ _ => none) (bX11_looked_2 N) N h a0 (0 : Int32)
theorem kX11_looked {l : Launch} {g : zG} (N : Nat) (h : AH) (a0 : Nat) : zM l g yX11_looked cX11_looked 3 (some .int) (2) 0 0 (fun v : Int32 => some (.int v)) (fX11_looked N h a0) h [.ref a0] := by
  refine zM.of (lv0 := [(0, .ref a0)]) (by decide) (Nat.le_of_ble_eq_true rfl) rfl (fun X hX C => ?_)
  subst hX
  unfold fX11_looked
  refine z_iconst (v := (0 : Int32)) C dX11_looked_0 rfl ?_
  refine z_istore_n C dX11_looked_1 [(1, .int (0 : Int32)), (0, .ref a0)] (by decide) rfl ?_
  exact z_lv _ [1, 0] rfl (tX11_looked_2 C N N _ a0 (0 : Int32))
def fX11_isTape (N : Nat) (h : AH) (x0 : Int32) : Option (Int32 × AH) :=
  (if x0 < (0) then
  zret .boolean (0 : Int32) h
  else
  (if (6 : Int32) ≤ x0 then
  zret .boolean (0 : Int32) h
  else
  zret .boolean (1 : Int32) h))
theorem kX11_isTape {l : Launch} {g : zG} (N : Nat) (h : AH) (x0 : Int32) : zM l g yX11_isTape cX11_isTape 1 (some .boolean) (1) 0 0 (fun v : Int32 => some (.int v)) (fX11_isTape N h x0) h [.int x0] := by
  refine zM.of (lv0 := [(0, .int x0)]) (by decide) (Nat.le_of_ble_eq_true rfl) rfl (fun X hX C => ?_)
  subst hX
  unfold fX11_isTape
  refine z_iload_n C 0 dX11_isTape_0 rfl ?_
  refine z_iflt C 14 dX11_isTape_1 rfl ?_ ?_
  · refine z_iconst (v := (0 : Int32)) C dX11_isTape_14 rfl ?_
    exact z_zreturn C ⟨rfl, rfl⟩ dX11_isTape_15
  · refine z_iload_n C 0 dX11_isTape_4 rfl ?_
    refine z_bipush (v := (6 : Int32)) C dX11_isTape_5 rfl ?_
    refine z_icmpge C 14 dX11_isTape_7 rfl ?_ ?_
    · refine z_iconst (v := (0 : Int32)) C dX11_isTape_14 rfl ?_
      exact z_zreturn C ⟨rfl, rfl⟩ dX11_isTape_15
    · refine z_iconst (v := (1 : Int32)) C dX11_isTape_10 rfl ?_
      refine z_goto C 15 dX11_isTape_11 rfl ?_
      exact z_zreturn C ⟨rfl, rfl⟩ dX11_isTape_15
def bX11_judge_37 (N : Nat) (r37 : AH → Nat → Int32 → Nat → Int32 → Option (Int32 × AH)) (h : AH) (a0 : Nat) (x2 : Int32) (a3 : Nat) (x4 : Int32) : Option (Int32 × AH) :=
  (zgR h a0 11 0).bind fun a_1 =>
  (zgI h a_1 6 0).bind fun v_2 =>
  (if v_2 ≤ x4 then
  some ((-5 : Int32), h)
  else
  znm ((x2.toInt64) + (x4.toInt64)) fun y_3 =>
  (if x2 < (0) then
  some ((100 : Int32) + x4, h)
  else
  (zis h a3 8).bind fun _ =>
  zcall (fX8_hasPlace N h a3 y_3) fun v_5 h_4 =>
  (if v_5 = (0) then
  some ((100 : Int32) + x4, h_4)
  else
  (zgR h_4 a3 8 2).bind fun a_7 =>
  (zlald h_4 a_7 (y_3.toInt32)).bind fun v_8 =>
  (zgR h_4 a0 11 0).bind fun a_9 =>
  (zgR h_4 a_9 6 3).bind fun a_10 =>
  (zald 0 h_4 a_10 x4).bind fun v_11 =>
  (if (lg_cmp v_8 (v_11.toInt64)) = (0) then
  r37 h_4 a0 x2 a3 (x4 + (1 : Int32))
  else
  some (x4, h_4)))))
theorem tX11_judge_37 {X : zX} {g : zG} (C : zC X g yX11_judge cX11_judge 7 3 0 0 (some .int)) (N : Nat) (n : Nat) : ∀ (h : AH) (a0 : Nat) (x2 : Int32) (a3 : Nat) (x4 : Int32), ZZ X g 7 (0, 0, 0, 0) (fun v : Int32 => some (.int v)) (zfix (fun _ _ _ _ _ => none) (bX11_judge_37 N) n h a0 x2 a3 x4) h 37 [(0, .ref a0), (2, .int x2), (3, .ref a3), (4, .int x4)] [] := by
  induction n with
  | zero => intro h a0 x2 a3 x4; exact z_none
  | succ n hr37 =>
    intro h a0 x2 a3 x4
    show ZZ X g 7 (0, 0, 0, 0) _ (bX11_judge_37 N (zfix (fun _ _ _ _ _ => none) (bX11_judge_37 N) n) h a0 x2 a3 x4) h 37 _ _
    unfold bX11_judge_37
    refine z_iload C 3 dX11_judge_37 rfl ?_
    refine z_aload_n C 0 dX11_judge_39 rfl ?_
    refine z_getR C qX11_12 dX11_judge_40 (fun a_1 => ?_)
    refine z_getI C qX11_240 dX11_judge_43 (fun v_2 => ?_)
    refine z_icmpge C 108 dX11_judge_46 rfl ?_ ?_
    · refine z_bipush (v := (-5 : Int32)) C dX11_judge_108 rfl ?_
      exact z_ireturn C ⟨rfl, rfl⟩ dX11_judge_110
    · refine z_iload_n C 1 dX11_judge_49 rfl ?_
      refine z_i2l C dX11_judge_50 ?_
      refine z_iload C 3 dX11_judge_51 rfl ?_
      refine z_i2l C dX11_judge_53 ?_
      refine z_ladd C dX11_judge_54 ?_
      refine z_nmL (fun y_3 => ?_)
      refine z_lstore C dX11_judge_55 [(5, .long y_3), (0, .ref a0), (2, .int x2), (3, .ref a3), (4, .int x4)] (by decide) rfl ?_
      refine z_iload_n C 2 dX11_judge_57 rfl ?_
      refine z_iflt C 70 dX11_judge_58 rfl ?_ ?_
      · refine z_bipush (v := (100 : Int32)) C dX11_judge_70 rfl ?_
        refine z_iload C 4 dX11_judge_72 rfl ?_
        refine z_iadd C dX11_judge_74 ?_
        exact z_ireturn C ⟨rfl, rfl⟩ dX11_judge_75
      · refine z_aload_n C 3 dX11_judge_61 rfl ?_
        refine z_lload C 0 dX11_judge_62 rfl ?_
        refine z_bind (fun _ q_6 => ?_)
        refine z_calli (z_runV (As := [.long y_3]) (rest := []) C mX11_274 (kX8_hasPlace N h a3 y_3) q_6 (Nat.le_of_ble_eq_true rfl) ⟨Nat.zero_le _, Nat.zero_le _⟩ dX11_judge_64 rfl rfl (Nat.le_of_ble_eq_true rfl)) rfl (fun v_5 h_4 => ?_)
        refine z_ifne C 76 dX11_judge_67 rfl ?_ ?_
        · refine z_aload_n C 3 dX11_judge_76 rfl ?_
          refine z_getR C qX11_278 dX11_judge_77 (fun a_7 => ?_)
          refine z_lload C 0 dX11_judge_80 rfl ?_
          refine z_l2i C dX11_judge_82 ?_
          refine z_laload C dX11_judge_83 (fun v_8 => ?_)
          refine z_aload_n C 1 dX11_judge_84 rfl ?_
          refine z_getR C qX11_12 dX11_judge_85 (fun a_9 => ?_)
          refine z_getR C qX11_110 dX11_judge_88 (fun a_10 => ?_)
          refine z_iload C 4 dX11_judge_91 rfl ?_
          refine z_iaload C dX11_judge_93 (fun v_11 => ?_)
          refine z_i2l C dX11_judge_94 ?_
          refine z_lcmp C dX11_judge_95 ?_
          refine z_ifeq C 102 dX11_judge_96 rfl ?_ ?_
          · refine z_iinc (v := x4 + (1 : Int32)) C 4 dX11_judge_102 [(4, .int (x4 + (1 : Int32))), (5, .long y_3), (0, .ref a0), (2, .int x2), (3, .ref a3)] rfl rfl (by decide) rfl ?_
            refine z_goto C 37 dX11_judge_105 rfl ?_
            exact z_lv _ [2, 3, 4, 0] rfl (hr37 _ a0 x2 a3 (x4 + (1 : Int32)))
          · refine z_iload C 4 dX11_judge_99 rfl ?_
            exact z_ireturn C ⟨rfl, rfl⟩ dX11_judge_101
        · refine z_bipush (v := (100 : Int32)) C dX11_judge_70 rfl ?_
          refine z_iload C 4 dX11_judge_72 rfl ?_
          refine z_iadd C dX11_judge_74 ?_
          exact z_ireturn C ⟨rfl, rfl⟩ dX11_judge_75
def fX11_judge (N : Nat) (h : AH) (a0 : Nat) (x1 : Int32) (x2 : Int32) : Option (Int32 × AH) :=
  zcall (fX11_isTape N h x1) fun v_2 h_1 =>
  (if v_2 = (0) then
  some ((-1 : Int32), h_1)
  else
  (zgR h_1 a0 11 10).bind fun a_3 =>
  (zaald 6 h_1 a_3 x1).bind fun a_4 =>
  (zis h_1 a_4 8).bind fun _ =>
  zcall (fX8_holdsRow N h_1 a_4) fun v_6 h_5 =>
  (if v_6 = (0) then
  zfix (fun _ _ _ _ _ => none) (bX11_judge_37 N) N h_5 a0 x2 a_4 (0 : Int32)
  else
  (zgI h_5 a_4 8 0).bind fun v_8 =>
  (if v_8 = (1 : Int32) then
  zfix (fun _ _ _ _ _ => none) (bX11_judge_37 N) N h_5 a0 x2 a_4 (0 : Int32)
  else
  some ((-12 : Int32), h_5))))
theorem kX11_judge {l : Launch} {g : zG} (N : Nat) (h : AH) (a0 : Nat) (x1 : Int32) (x2 : Int32) : zM l g yX11_judge cX11_judge 7 (some .int) (3) 0 0 (fun v : Int32 => some (.int v)) (fX11_judge N h a0 x1 x2) h [.ref a0, .int x1, .int x2] := by
  refine zM.of (lv0 := [(0, .ref a0), (1, .int x1), (2, .int x2)]) (by decide) (Nat.le_of_ble_eq_true rfl) rfl (fun X hX C => ?_)
  subst hX
  unfold fX11_judge
  refine z_iload_n C 1 dX11_judge_0 rfl ?_
  refine z_calli (z_runS (As := [.int x1]) (rest := []) C mX11_265 (kX11_isTape N h x1) (Nat.le_of_ble_eq_true rfl) ⟨Nat.zero_le _, Nat.zero_le _⟩ dX11_judge_1 rfl rfl (Nat.le_of_ble_eq_true rfl)) rfl (fun v_2 h_1 => ?_)
  refine z_ifne C 9 dX11_judge_4 rfl ?_ ?_
  · refine z_aload_n C 0 dX11_judge_9 rfl ?_
    refine z_getR C qX11_81 dX11_judge_10 (fun a_3 => ?_)
    refine z_iload_n C 1 dX11_judge_13 rfl ?_
    refine z_aaload C (by decide) dX11_judge_14 (fun a_4 => ?_)
    refine z_astore_n C dX11_judge_15 [(3, .ref a_4), (0, .ref a0), (1, .int x1), (2, .int x2)] (by decide) rfl ?_
    refine z_aload_n C 0 dX11_judge_16 rfl ?_
    refine z_bind (fun _ q_7 => ?_)
    refine z_calli (z_runV (As := []) (rest := []) C mX11_268 (kX8_holdsRow N h_1 a_4) q_7 (Nat.le_of_ble_eq_true rfl) ⟨Nat.zero_le _, Nat.zero_le _⟩ dX11_judge_17 rfl rfl (Nat.le_of_ble_eq_true rfl)) rfl (fun v_6 h_5 => ?_)
    refine z_ifeq C 34 dX11_judge_20 rfl ?_ ?_
    · refine z_iconst (v := (0 : Int32)) C dX11_judge_34 rfl ?_
      refine z_istore C dX11_judge_35 [(4, .int (0 : Int32)), (3, .ref a_4), (0, .ref a0), (1, .int x1), (2, .int x2)] (by decide) rfl ?_
      exact z_lv _ [2, 4, 1, 0] rfl (tX11_judge_37 C N N _ a0 x2 a_4 (0 : Int32))
    · refine z_aload_n C 0 dX11_judge_23 rfl ?_
      refine z_getI C qX11_271 dX11_judge_24 (fun v_8 => ?_)
      refine z_iconst (v := (1 : Int32)) C dX11_judge_27 rfl ?_
      refine z_icmpeq C 34 dX11_judge_28 rfl ?_ ?_
      · refine z_iconst (v := (0 : Int32)) C dX11_judge_34 rfl ?_
        refine z_istore C dX11_judge_35 [(4, .int (0 : Int32)), (3, .ref a_4), (0, .ref a0), (1, .int x1), (2, .int x2)] (by decide) rfl ?_
        exact z_lv _ [2, 4, 1, 0] rfl (tX11_judge_37 C N N _ a0 x2 a_4 (0 : Int32))
      · refine z_bipush (v := (-12 : Int32)) C dX11_judge_31 rfl ?_
        exact z_ireturn C ⟨rfl, rfl⟩ dX11_judge_33
  · refine z_iconst (v := (-1 : Int32)) C dX11_judge_7 rfl ?_
    exact z_ireturn C ⟨rfl, rfl⟩ dX11_judge_8
def fX11_image (N : Nat) (h : AH) (a0 : Nat) : Option (Int32 × AH) :=
  (zgR h a0 11 1).bind fun a_1 =>
  (zgR h a0 11 0).bind fun a_2 =>
  (zis h a_1 6).bind fun _ =>
  zcall (fX6_copyFrom N h a_1 a_2) fun _ h_3 =>
  (zputZ h_3 a0 11 2 (1 : Int32)).bind fun h_5 =>
  (zgR h_5 a0 11 0).bind fun a_6 =>
  (zgI h_5 a_6 6 0).bind fun v_7 =>
  some (v_7, h_5)
theorem kX11_image {l : Launch} {g : zG} (N : Nat) (h : AH) (a0 : Nat) : zM l g yX11_image cX11_image 1 (some .int) (4) 0 0 (fun v : Int32 => some (.int v)) (fX11_image N h a0) h [.ref a0] := by
  refine zM.of (lv0 := [(0, .ref a0)]) (by decide) (Nat.le_of_ble_eq_true rfl) rfl (fun X hX C => ?_)
  subst hX
  unfold fX11_image
  refine z_aload_n C 0 dX11_image_0 rfl ?_
  refine z_getR C qX11_18 dX11_image_1 (fun a_1 => ?_)
  refine z_aload_n C 0 dX11_image_4 rfl ?_
  refine z_getR C qX11_12 dX11_image_5 (fun a_2 => ?_)
  refine z_bind (fun _ q_4 => ?_)
  refine z_callv (z_runV (As := [.ref a_2]) (rest := []) C mX11_282 (kX6_copyFrom N h a_1 a_2) q_4 (Nat.le_of_ble_eq_true rfl) ⟨Nat.zero_le _, Nat.zero_le _⟩ dX11_image_8 rfl rfl (Nat.le_of_ble_eq_true rfl)) rfl (fun _ h_3 => ?_)
  refine z_aload_n C 0 dX11_image_11 rfl ?_
  refine z_iconst (v := (1 : Int32)) C dX11_image_12 rfl ?_
  refine z_putZ C pX11_21 dX11_image_13 (fun h_5 => ?_)
  refine z_aload_n C 0 dX11_image_16 rfl ?_
  refine z_getR C qX11_12 dX11_image_17 (fun a_6 => ?_)
  refine z_getI C qX11_240 dX11_image_20 (fun v_7 => ?_)
  exact z_ireturn C ⟨rfl, rfl⟩ dX11_image_23
def fX11_undo (N : Nat) (h : AH) (a0 : Nat) : Option (Int32 × AH) :=
  (zgI h a0 11 2).bind fun v_1 =>
  (if v_1 = (0) then
  some ((-3 : Int32), h)
  else
  (zgR h a0 11 0).bind fun a_2 =>
  (zgR h a0 11 1).bind fun a_3 =>
  (zis h a_2 6).bind fun _ =>
  zcall (fX6_copyFrom N h a_2 a_3) fun _ h_4 =>
  (zgR h_4 a0 11 0).bind fun a_6 =>
  (zgI h_4 a_6 6 0).bind fun v_7 =>
  some (v_7, h_4))
theorem kX11_undo {l : Launch} {g : zG} (N : Nat) (h : AH) (a0 : Nat) : zM l g yX11_undo cX11_undo 1 (some .int) (4) 0 0 (fun v : Int32 => some (.int v)) (fX11_undo N h a0) h [.ref a0] := by
  refine zM.of (lv0 := [(0, .ref a0)]) (by decide) (Nat.le_of_ble_eq_true rfl) rfl (fun X hX C => ?_)
  subst hX
  unfold fX11_undo
  refine z_aload_n C 0 dX11_undo_0 rfl ?_
  refine z_getI C qX11_21 dX11_undo_1 (fun v_1 => ?_)
  refine z_ifne C 10 dX11_undo_4 rfl ?_ ?_
  · refine z_aload_n C 0 dX11_undo_10 rfl ?_
    refine z_getR C qX11_12 dX11_undo_11 (fun a_2 => ?_)
    refine z_aload_n C 0 dX11_undo_14 rfl ?_
    refine z_getR C qX11_18 dX11_undo_15 (fun a_3 => ?_)
    refine z_bind (fun _ q_5 => ?_)
    refine z_callv (z_runV (As := [.ref a_3]) (rest := []) C mX11_282 (kX6_copyFrom N h a_2 a_3) q_5 (Nat.le_of_ble_eq_true rfl) ⟨Nat.zero_le _, Nat.zero_le _⟩ dX11_undo_18 rfl rfl (Nat.le_of_ble_eq_true rfl)) rfl (fun _ h_4 => ?_)
    refine z_aload_n C 0 dX11_undo_21 rfl ?_
    refine z_getR C qX11_12 dX11_undo_22 (fun a_6 => ?_)
    refine z_getI C qX11_240 dX11_undo_25 (fun v_7 => ?_)
    exact z_ireturn C ⟨rfl, rfl⟩ dX11_undo_28
  · refine z_bipush (v := (-3 : Int32)) C dX11_undo_7 rfl ?_
    exact z_ireturn C ⟨rfl, rfl⟩ dX11_undo_9
def fX11_act (N : Nat) (h : AH) (a0 : Nat) (x1 : Int32) (x2 : Int32) (x3 : Int32) : Option (Int32 × AH) :=
  (zgR h a0 11 9).bind fun a_1 =>
  (zis h a_1 10).bind fun _ =>
  zcall (fX10_clear N h a_1) fun _ h_2 =>
  (zgR h_2 a0 11 0).bind fun a_4 =>
  (zis h_2 a_4 6).bind fun _ =>
  zcall (fX6_hasMaster N h_2 a_4 x1) fun v_6 h_5 =>
  (if v_6 = (0) then
  some ((0 : Int32), h_5)
  else
  (if x2 < (0) then
  some ((0 : Int32), h_5)
  else
  (if x2 ≤ (2 : Int32) then
  (zgR h_5 a0 11 9).bind fun a_8 =>
  (zput h_5 a_8 10 0 (.int x1)).bind fun h_9 =>
  (zgR h_9 a0 11 9).bind fun a_10 =>
  (zgR h_9 a0 11 0).bind fun a_11 =>
  (zgR h_9 a_11 6 2).bind fun a_12 =>
  (zald 0 h_9 a_12 x1).bind fun v_13 =>
  (zput h_9 a_10 10 1 (.int v_13)).bind fun h_14 =>
  (zis h_14 a0 11).bind fun _ =>
  zcall (fX11_mannersOf N h_14 a0 x1) fun a_16 h_15 =>
  (if x2 = (0 : Int32) then
  (zgR h_15 a0 11 9).bind fun a_19 =>
  zcall ((zkind h_15 a_16).bind fun k_22 => if k_22 = 0 then fX0_dines N h_15 a_16 a_19 x3 else if k_22 = 1 then fX7_dines N h_15 a_16 a_19 x3 else if k_22 = 2 then fX3_dines N h_15 a_16 a_19 x3 else if k_22 = 3 then fX3_dines N h_15 a_16 a_19 x3 else if k_22 = 4 then fX7_dines N h_15 a_16 a_19 x3 else if k_22 = 7 then fX7_dines N h_15 a_16 a_19 x3 else if k_22 = 9 then fX9_dines N h_15 a_16 a_19 x3 else none) fun v_21 h_20 =>
  some (v_21, h_20)
  else if x2 = (1 : Int32) then
  (zgR h_15 a0 11 9).bind fun a_25 =>
  zcall ((zkind h_15 a_16).bind fun k_28 => if k_28 = 0 then fX0_nods N h_15 a_16 a_25 x3 else if k_28 = 1 then fX7_nods N h_15 a_16 a_25 x3 else if k_28 = 2 then fX7_nods N h_15 a_16 a_25 x3 else if k_28 = 3 then fX7_nods N h_15 a_16 a_25 x3 else if k_28 = 4 then fX4_nods N h_15 a_16 a_25 x3 else if k_28 = 7 then fX7_nods N h_15 a_16 a_25 x3 else if k_28 = 9 then fX9_nods N h_15 a_16 a_25 x3 else none) fun v_27 h_26 =>
  some (v_27, h_26)
  else 
  (zgR h_15 a0 11 9).bind fun a_30 =>
  zcall ((zkind h_15 a_16).bind fun k_33 => if k_33 = 0 then fX7_tells N h_15 a_16 a_30 x3 else if k_33 = 1 then fX1_tells N h_15 a_16 a_30 x3 else if k_33 = 2 then fX2_tells N h_15 a_16 a_30 x3 else if k_33 = 3 then fX7_tells N h_15 a_16 a_30 x3 else if k_33 = 4 then fX7_tells N h_15 a_16 a_30 x3 else if k_33 = 7 then fX7_tells N h_15 a_16 a_30 x3 else if k_33 = 9 then fX1_tells N h_15 a_16 a_30 x3 else none) fun v_32 h_31 =>
  some (v_32, h_31))
  else
  some ((0 : Int32), h_5))))
theorem kX11_act {l : Launch} {g : zG} (N : Nat) (h : AH) (a0 : Nat) (x1 : Int32) (x2 : Int32) (x3 : Int32) : zM l g yX11_act cX11_act 5 (some .int) (9) 0 0 (fun v : Int32 => some (.int v)) (fX11_act N h a0 x1 x2 x3) h [.ref a0, .int x1, .int x2, .int x3] := by
  refine zM.of (lv0 := [(0, .ref a0), (1, .int x1), (2, .int x2), (3, .int x3)]) (by decide) (Nat.le_of_ble_eq_true rfl) rfl (fun X hX C => ?_)
  subst hX
  unfold fX11_act
  refine z_aload_n C 0 dX11_act_0 rfl ?_
  refine z_getR C qX11_75 dX11_act_1 (fun a_1 => ?_)
  refine z_bind (fun _ q_3 => ?_)
  refine z_callv (z_runV (As := []) (rest := []) C mX11_286 (kX10_clear N h a_1) q_3 (Nat.le_of_ble_eq_true rfl) ⟨Nat.zero_le _, Nat.zero_le _⟩ dX11_act_4 rfl rfl (Nat.le_of_ble_eq_true rfl)) rfl (fun _ h_2 => ?_)
  refine z_aload_n C 0 dX11_act_7 rfl ?_
  refine z_getR C qX11_12 dX11_act_8 (fun a_4 => ?_)
  refine z_iload_n C 1 dX11_act_11 rfl ?_
  refine z_bind (fun _ q_7 => ?_)
  refine z_calli (z_runV (As := [.int x1]) (rest := []) C mX11_97 (kX6_hasMaster N h_2 a_4 x1) q_7 (Nat.le_of_ble_eq_true rfl) ⟨Nat.zero_le _, Nat.zero_le _⟩ dX11_act_12 rfl rfl (Nat.le_of_ble_eq_true rfl)) rfl (fun v_6 h_5 => ?_)
  refine z_ifeq C 27 dX11_act_15 rfl ?_ ?_
  · refine z_iconst (v := (0 : Int32)) C dX11_act_27 rfl ?_
    exact z_ireturn C ⟨rfl, rfl⟩ dX11_act_28
  · refine z_iload_n C 2 dX11_act_18 rfl ?_
    refine z_iflt C 27 dX11_act_19 rfl ?_ ?_
    · refine z_iconst (v := (0 : Int32)) C dX11_act_27 rfl ?_
      exact z_ireturn C ⟨rfl, rfl⟩ dX11_act_28
    · refine z_iload_n C 2 dX11_act_22 rfl ?_
      refine z_iconst (v := (2 : Int32)) C dX11_act_23 rfl ?_
      refine z_icmple C 29 dX11_act_24 rfl ?_ ?_
      · refine z_aload_n C 0 dX11_act_29 rfl ?_
        refine z_getR C qX11_75 dX11_act_30 (fun a_8 => ?_)
        refine z_iload_n C 1 dX11_act_33 rfl ?_
        refine z_putI C pX11_289 dX11_act_34 (fun h_9 => ?_)
        refine z_aload_n C 0 dX11_act_37 rfl ?_
        refine z_getR C qX11_75 dX11_act_38 (fun a_10 => ?_)
        refine z_aload_n C 0 dX11_act_41 rfl ?_
        refine z_getR C qX11_12 dX11_act_42 (fun a_11 => ?_)
        refine z_getR C qX11_107 dX11_act_45 (fun a_12 => ?_)
        refine z_iload_n C 1 dX11_act_48 rfl ?_
        refine z_iaload C dX11_act_49 (fun v_13 => ?_)
        refine z_putI C pX11_292 dX11_act_50 (fun h_14 => ?_)
        refine z_aload_n C 0 dX11_act_53 rfl ?_
        refine z_iload_n C 1 dX11_act_54 rfl ?_
        refine z_bind (fun _ q_17 => ?_)
        refine z_callr (z_runV (As := [.int x1]) (rest := []) C mX11_295 (kX11_mannersOf N h_14 a0 x1) q_17 (Nat.le_of_ble_eq_true rfl) ⟨Nat.zero_le _, Nat.zero_le _⟩ dX11_act_55 rfl rfl (Nat.le_of_ble_eq_true rfl)) rfl (fun a_16 h_15 => ?_)
        refine z_astore C dX11_act_58 [(4, .ref a_16), (0, .ref a0), (1, .int x1), (2, .int x2), (3, .int x3)] (by decide) rfl ?_
        refine z_iload_n C 3 dX11_act_60 rfl ?_
        refine z_ite (fun q_18 => ?_) (fun q_18 => ?_)
        · subst q_18
          refine z_lookup C 88 dX11_act_61 rfl rfl rfl ?_
          refine z_aload C 0 dX11_act_88 rfl ?_
          refine z_aload_n C 1 dX11_act_90 rfl ?_
          refine z_getR C qX11_75 dX11_act_91 (fun a_19 => ?_)
          refine z_iload_n C 4 dX11_act_94 rfl ?_
          refine z_calli (zRun_bind (fun k_22 q_23 => zRun_ite (fun q0 => z_runU (As := [.ref a_19, .int x3]) (rest := []) C mX11_299_0 (kX0_dines N h_15 a_16 a_19 x3) (zis_of_kind (q0 ▸ q_23)) (Nat.le_of_ble_eq_true rfl) ⟨Nat.zero_le _, Nat.zero_le _⟩ dX11_act_95 rfl rfl (Nat.le_of_ble_eq_true rfl)) (fun _ => zRun_ite (fun q0 => z_runU (As := [.ref a_19, .int x3]) (rest := []) C mX11_299_1 (kX7_dines N h_15 a_16 a_19 x3) (zis_of_kind (q0 ▸ q_23)) (Nat.le_of_ble_eq_true rfl) ⟨Nat.zero_le _, Nat.zero_le _⟩ dX11_act_95 rfl rfl (Nat.le_of_ble_eq_true rfl)) (fun _ => zRun_ite (fun q0 => z_runU (As := [.ref a_19, .int x3]) (rest := []) C mX11_299_2 (kX3_dines N h_15 a_16 a_19 x3) (zis_of_kind (q0 ▸ q_23)) (Nat.le_of_ble_eq_true rfl) ⟨Nat.zero_le _, Nat.zero_le _⟩ dX11_act_95 rfl rfl (Nat.le_of_ble_eq_true rfl)) (fun _ => zRun_ite (fun q0 => z_runU (As := [.ref a_19, .int x3]) (rest := []) C mX11_299_3 (kX3_dines N h_15 a_16 a_19 x3) (zis_of_kind (q0 ▸ q_23)) (Nat.le_of_ble_eq_true rfl) ⟨Nat.zero_le _, Nat.zero_le _⟩ dX11_act_95 rfl rfl (Nat.le_of_ble_eq_true rfl)) (fun _ => zRun_ite (fun q0 => z_runU (As := [.ref a_19, .int x3]) (rest := []) C mX11_299_4 (kX7_dines N h_15 a_16 a_19 x3) (zis_of_kind (q0 ▸ q_23)) (Nat.le_of_ble_eq_true rfl) ⟨Nat.zero_le _, Nat.zero_le _⟩ dX11_act_95 rfl rfl (Nat.le_of_ble_eq_true rfl)) (fun _ => zRun_ite (fun q0 => z_runV (As := [.ref a_19, .int x3]) (rest := []) C mX11_299_7 (kX7_dines N h_15 a_16 a_19 x3) (zis_of_kind (q0 ▸ q_23)) (Nat.le_of_ble_eq_true rfl) ⟨Nat.zero_le _, Nat.zero_le _⟩ dX11_act_95 rfl rfl (Nat.le_of_ble_eq_true rfl)) (fun _ => zRun_ite (fun q0 => z_runU (As := [.ref a_19, .int x3]) (rest := []) C mX11_299_9 (kX9_dines N h_15 a_16 a_19 x3) (zis_of_kind (q0 ▸ q_23)) (Nat.le_of_ble_eq_true rfl) ⟨Nat.zero_le _, Nat.zero_le _⟩ dX11_act_95 rfl rfl (Nat.le_of_ble_eq_true rfl)) (fun _ => zRun_none))))))))) rfl (fun v_21 h_20 => ?_)
          exact z_ireturn C ⟨rfl, rfl⟩ dX11_act_98
        refine z_ite (fun q_24 => ?_) (fun q_24 => ?_)
        · subst q_24
          refine z_lookup C 99 dX11_act_61 rfl rfl rfl ?_
          refine z_aload C 0 dX11_act_99 rfl ?_
          refine z_aload_n C 1 dX11_act_101 rfl ?_
          refine z_getR C qX11_75 dX11_act_102 (fun a_25 => ?_)
          refine z_iload_n C 4 dX11_act_105 rfl ?_
          refine z_calli (zRun_bind (fun k_28 q_29 => zRun_ite (fun q0 => z_runU (As := [.ref a_25, .int x3]) (rest := []) C mX11_303_0 (kX0_nods N h_15 a_16 a_25 x3) (zis_of_kind (q0 ▸ q_29)) (Nat.le_of_ble_eq_true rfl) ⟨Nat.zero_le _, Nat.zero_le _⟩ dX11_act_106 rfl rfl (Nat.le_of_ble_eq_true rfl)) (fun _ => zRun_ite (fun q0 => z_runU (As := [.ref a_25, .int x3]) (rest := []) C mX11_303_1 (kX7_nods N h_15 a_16 a_25 x3) (zis_of_kind (q0 ▸ q_29)) (Nat.le_of_ble_eq_true rfl) ⟨Nat.zero_le _, Nat.zero_le _⟩ dX11_act_106 rfl rfl (Nat.le_of_ble_eq_true rfl)) (fun _ => zRun_ite (fun q0 => z_runU (As := [.ref a_25, .int x3]) (rest := []) C mX11_303_2 (kX7_nods N h_15 a_16 a_25 x3) (zis_of_kind (q0 ▸ q_29)) (Nat.le_of_ble_eq_true rfl) ⟨Nat.zero_le _, Nat.zero_le _⟩ dX11_act_106 rfl rfl (Nat.le_of_ble_eq_true rfl)) (fun _ => zRun_ite (fun q0 => z_runU (As := [.ref a_25, .int x3]) (rest := []) C mX11_303_3 (kX7_nods N h_15 a_16 a_25 x3) (zis_of_kind (q0 ▸ q_29)) (Nat.le_of_ble_eq_true rfl) ⟨Nat.zero_le _, Nat.zero_le _⟩ dX11_act_106 rfl rfl (Nat.le_of_ble_eq_true rfl)) (fun _ => zRun_ite (fun q0 => z_runU (As := [.ref a_25, .int x3]) (rest := []) C mX11_303_4 (kX4_nods N h_15 a_16 a_25 x3) (zis_of_kind (q0 ▸ q_29)) (Nat.le_of_ble_eq_true rfl) ⟨Nat.zero_le _, Nat.zero_le _⟩ dX11_act_106 rfl rfl (Nat.le_of_ble_eq_true rfl)) (fun _ => zRun_ite (fun q0 => z_runV (As := [.ref a_25, .int x3]) (rest := []) C mX11_303_7 (kX7_nods N h_15 a_16 a_25 x3) (zis_of_kind (q0 ▸ q_29)) (Nat.le_of_ble_eq_true rfl) ⟨Nat.zero_le _, Nat.zero_le _⟩ dX11_act_106 rfl rfl (Nat.le_of_ble_eq_true rfl)) (fun _ => zRun_ite (fun q0 => z_runU (As := [.ref a_25, .int x3]) (rest := []) C mX11_303_9 (kX9_nods N h_15 a_16 a_25 x3) (zis_of_kind (q0 ▸ q_29)) (Nat.le_of_ble_eq_true rfl) ⟨Nat.zero_le _, Nat.zero_le _⟩ dX11_act_106 rfl rfl (Nat.le_of_ble_eq_true rfl)) (fun _ => zRun_none))))))))) rfl (fun v_27 h_26 => ?_)
          exact z_ireturn C ⟨rfl, rfl⟩ dX11_act_109
        refine z_lookup (o := 49) C 110 dX11_act_61 rfl (by show Op.lookupswitch.offset [(0, 27), (1, 38)] 49 x2.toInt = 49; rw [lv_osw (a := 0) q_18 rfl, lv_osw (a := 1) q_24 rfl]; first | done | rfl) rfl ?_
        refine z_aload C 0 dX11_act_110 rfl ?_
        refine z_aload_n C 1 dX11_act_112 rfl ?_
        refine z_getR C qX11_75 dX11_act_113 (fun a_30 => ?_)
        refine z_iload_n C 4 dX11_act_116 rfl ?_
        refine z_calli (zRun_bind (fun k_33 q_34 => zRun_ite (fun q0 => z_runU (As := [.ref a_30, .int x3]) (rest := []) C mX11_306_0 (kX7_tells N h_15 a_16 a_30 x3) (zis_of_kind (q0 ▸ q_34)) (Nat.le_of_ble_eq_true rfl) ⟨Nat.zero_le _, Nat.zero_le _⟩ dX11_act_117 rfl rfl (Nat.le_of_ble_eq_true rfl)) (fun _ => zRun_ite (fun q0 => z_runU (As := [.ref a_30, .int x3]) (rest := []) C mX11_306_1 (kX1_tells N h_15 a_16 a_30 x3) (zis_of_kind (q0 ▸ q_34)) (Nat.le_of_ble_eq_true rfl) ⟨Nat.zero_le _, Nat.zero_le _⟩ dX11_act_117 rfl rfl (Nat.le_of_ble_eq_true rfl)) (fun _ => zRun_ite (fun q0 => z_runU (As := [.ref a_30, .int x3]) (rest := []) C mX11_306_2 (kX2_tells N h_15 a_16 a_30 x3) (zis_of_kind (q0 ▸ q_34)) (Nat.le_of_ble_eq_true rfl) ⟨Nat.zero_le _, Nat.zero_le _⟩ dX11_act_117 rfl rfl (Nat.le_of_ble_eq_true rfl)) (fun _ => zRun_ite (fun q0 => z_runU (As := [.ref a_30, .int x3]) (rest := []) C mX11_306_3 (kX7_tells N h_15 a_16 a_30 x3) (zis_of_kind (q0 ▸ q_34)) (Nat.le_of_ble_eq_true rfl) ⟨Nat.zero_le _, Nat.zero_le _⟩ dX11_act_117 rfl rfl (Nat.le_of_ble_eq_true rfl)) (fun _ => zRun_ite (fun q0 => z_runU (As := [.ref a_30, .int x3]) (rest := []) C mX11_306_4 (kX7_tells N h_15 a_16 a_30 x3) (zis_of_kind (q0 ▸ q_34)) (Nat.le_of_ble_eq_true rfl) ⟨Nat.zero_le _, Nat.zero_le _⟩ dX11_act_117 rfl rfl (Nat.le_of_ble_eq_true rfl)) (fun _ => zRun_ite (fun q0 => z_runV (As := [.ref a_30, .int x3]) (rest := []) C mX11_306_7 (kX7_tells N h_15 a_16 a_30 x3) (zis_of_kind (q0 ▸ q_34)) (Nat.le_of_ble_eq_true rfl) ⟨Nat.zero_le _, Nat.zero_le _⟩ dX11_act_117 rfl rfl (Nat.le_of_ble_eq_true rfl)) (fun _ => zRun_ite (fun q0 => z_runU (As := [.ref a_30, .int x3]) (rest := []) C mX11_306_9 (kX1_tells N h_15 a_16 a_30 x3) (zis_of_kind (q0 ▸ q_34)) (Nat.le_of_ble_eq_true rfl) ⟨Nat.zero_le _, Nat.zero_le _⟩ dX11_act_117 rfl rfl (Nat.le_of_ble_eq_true rfl)) (fun _ => zRun_none))))))))) rfl (fun v_32 h_31 => ?_)
        exact z_ireturn C ⟨rfl, rfl⟩ dX11_act_120
      · refine z_iconst (v := (0 : Int32)) C dX11_act_27 rfl ?_
        exact z_ireturn C ⟨rfl, rfl⟩ dX11_act_28
def fX11_trace (N : Nat) (h : AH) (a0 : Nat) (x1 : Int32) : Option (Int32 × AH) :=
  (if x1 < (0) then
  some ((-1 : Int32), h)
  else
  (zgR h a0 11 9).bind fun a_1 =>
  (zis h a_1 10).bind fun _ =>
  zcall (fX10_keptCount N h a_1) fun v_3 h_2 =>
  (if v_3 ≤ x1 then
  some ((-1 : Int32), h_2)
  else
  (zgR h_2 a0 11 9).bind fun a_5 =>
  (zgR h_2 a_5 10 3).bind fun a_6 =>
  (zald 0 h_2 a_6 x1).bind fun v_7 =>
  some (v_7, h_2)))
theorem kX11_trace {l : Launch} {g : zG} (N : Nat) (h : AH) (a0 : Nat) (x1 : Int32) : zM l g yX11_trace cX11_trace 2 (some .int) (2) 0 0 (fun v : Int32 => some (.int v)) (fX11_trace N h a0 x1) h [.ref a0, .int x1] := by
  refine zM.of (lv0 := [(0, .ref a0), (1, .int x1)]) (by decide) (Nat.le_of_ble_eq_true rfl) rfl (fun X hX C => ?_)
  subst hX
  unfold fX11_trace
  refine z_iload_n C 1 dX11_trace_0 rfl ?_
  refine z_iflt C 27 dX11_trace_1 rfl ?_ ?_
  · refine z_iconst (v := (-1 : Int32)) C dX11_trace_27 rfl ?_
    exact z_ireturn C ⟨rfl, rfl⟩ dX11_trace_28
  · refine z_iload_n C 1 dX11_trace_4 rfl ?_
    refine z_aload_n C 0 dX11_trace_5 rfl ?_
    refine z_getR C qX11_75 dX11_trace_6 (fun a_1 => ?_)
    refine z_bind (fun _ q_4 => ?_)
    refine z_calli (z_runV (As := []) (rest := [.int x1]) C mX11_309 (kX10_keptCount N h a_1) q_4 (Nat.le_of_ble_eq_true rfl) ⟨Nat.zero_le _, Nat.zero_le _⟩ dX11_trace_9 rfl rfl (Nat.le_of_ble_eq_true rfl)) rfl (fun v_3 h_2 => ?_)
    refine z_icmpge C 27 dX11_trace_12 rfl ?_ ?_
    · refine z_iconst (v := (-1 : Int32)) C dX11_trace_27 rfl ?_
      exact z_ireturn C ⟨rfl, rfl⟩ dX11_trace_28
    · refine z_aload_n C 0 dX11_trace_15 rfl ?_
      refine z_getR C qX11_75 dX11_trace_16 (fun a_5 => ?_)
      refine z_getR C qX11_312 dX11_trace_19 (fun a_6 => ?_)
      refine z_iload_n C 1 dX11_trace_22 rfl ?_
      refine z_iaload C dX11_trace_23 (fun v_7 => ?_)
      refine z_goto C 28 dX11_trace_24 rfl ?_
      exact z_ireturn C ⟨rfl, rfl⟩ dX11_trace_28
def fX11_isUnder (N : Nat) (h : AH) (a0 : Nat) (x1 : Int32) : Option (Int32 × AH) :=
  (if x1 = (0 : Int32) then
  zret .boolean (1 : Int32) h
  else if x1 = (1 : Int32) then
  (zinst h a0 4).bind fun v_3 =>
  zret .boolean v_3 h
  else if x1 = (2 : Int32) then
  (zinst h a0 3).bind fun v_5 =>
  zret .boolean v_5 h
  else if x1 = (3 : Int32) then
  (zinst h a0 1).bind fun v_7 =>
  zret .boolean v_7 h
  else if x1 = (4 : Int32) then
  (zinst h a0 0).bind fun v_9 =>
  zret .boolean v_9 h
  else if x1 = (5 : Int32) then
  (zinst h a0 2).bind fun v_11 =>
  zret .boolean v_11 h
  else if x1 = (6 : Int32) then
  (zinst h a0 9).bind fun v_13 =>
  zret .boolean v_13 h
  else 
  zret .boolean (0 : Int32) h)
theorem kX11_isUnder {l : Launch} {g : zG} (N : Nat) (h : AH) (a0 : Nat) (x1 : Int32) : zM l g yX11_isUnder cX11_isUnder 2 (some .boolean) (1) 0 0 (fun v : Int32 => some (.int v)) (fX11_isUnder N h a0 x1) h [.ref a0, .int x1] := by
  refine zM.of (lv0 := [(0, .ref a0), (1, .int x1)]) (by decide) (Nat.le_of_ble_eq_true rfl) rfl (fun X hX C => ?_)
  subst hX
  unfold fX11_isUnder
  refine z_iload_n C 1 dX11_isUnder_0 rfl ?_
  refine z_ite (fun q_1 => ?_) (fun q_1 => ?_)
  · subst q_1
    refine z_table C 44 dX11_isUnder_1 (by decide) (by decide) rfl rfl ?_
    refine z_iconst (v := (1 : Int32)) C dX11_isUnder_44 rfl ?_
    exact z_zreturn C ⟨rfl, rfl⟩ dX11_isUnder_45
  refine z_ite (fun q_2 => ?_) (fun q_2 => ?_)
  · subst q_2
    refine z_table C 46 dX11_isUnder_1 (by decide) (by decide) rfl rfl ?_
    refine z_aload_n C 0 dX11_isUnder_46 rfl ?_
    refine z_inst C (w193) (by decide) dX11_isUnder_47 (fun v_3 => ?_)
    exact z_zreturn C ⟨rfl, rfl⟩ dX11_isUnder_50
  refine z_ite (fun q_4 => ?_) (fun q_4 => ?_)
  · subst q_4
    refine z_table C 51 dX11_isUnder_1 (by decide) (by decide) rfl rfl ?_
    refine z_aload_n C 0 dX11_isUnder_51 rfl ?_
    refine z_inst C (w200) (by decide) dX11_isUnder_52 (fun v_5 => ?_)
    exact z_zreturn C ⟨rfl, rfl⟩ dX11_isUnder_55
  refine z_ite (fun q_6 => ?_) (fun q_6 => ?_)
  · subst q_6
    refine z_table C 56 dX11_isUnder_1 (by decide) (by decide) rfl rfl ?_
    refine z_aload_n C 0 dX11_isUnder_56 rfl ?_
    refine z_inst C (w207) (by decide) dX11_isUnder_57 (fun v_7 => ?_)
    exact z_zreturn C ⟨rfl, rfl⟩ dX11_isUnder_60
  refine z_ite (fun q_8 => ?_) (fun q_8 => ?_)
  · subst q_8
    refine z_table C 61 dX11_isUnder_1 (by decide) (by decide) rfl rfl ?_
    refine z_aload_n C 0 dX11_isUnder_61 rfl ?_
    refine z_inst C (w214) (by decide) dX11_isUnder_62 (fun v_9 => ?_)
    exact z_zreturn C ⟨rfl, rfl⟩ dX11_isUnder_65
  refine z_ite (fun q_10 => ?_) (fun q_10 => ?_)
  · subst q_10
    refine z_table C 66 dX11_isUnder_1 (by decide) (by decide) rfl rfl ?_
    refine z_aload_n C 0 dX11_isUnder_66 rfl ?_
    refine z_inst C (w221) (by decide) dX11_isUnder_67 (fun v_11 => ?_)
    exact z_zreturn C ⟨rfl, rfl⟩ dX11_isUnder_70
  refine z_ite (fun q_12 => ?_) (fun q_12 => ?_)
  · subst q_12
    refine z_table C 71 dX11_isUnder_1 (by decide) (by decide) rfl rfl ?_
    refine z_aload_n C 0 dX11_isUnder_71 rfl ?_
    refine z_inst C (w228) (by decide) dX11_isUnder_72 (fun v_13 => ?_)
    exact z_zreturn C ⟨rfl, rfl⟩ dX11_isUnder_75
  refine z_tableO C 76 dX11_isUnder_1 (by have eq_1 := lv_neT (a := 0) q_1 rfl; have eq_2 := lv_neT (a := 1) q_2 rfl; have eq_4 := lv_neT (a := 2) q_4 rfl; have eq_6 := lv_neT (a := 3) q_6 rfl; have eq_8 := lv_neT (a := 4) q_8 rfl; have eq_10 := lv_neT (a := 5) q_10 rfl; have eq_12 := lv_neT (a := 6) q_12 rfl; omega) rfl ?_
  refine z_iconst (v := (0 : Int32)) C dX11_isUnder_76 rfl ?_
  exact z_zreturn C ⟨rfl, rfl⟩ dX11_isUnder_77
def fX11_taken (N : Nat) (h : AH) (a0 : Nat) (x1 : Int32) (x2 : Int32) : Option (Int32 × AH) :=
  (if x2 < (0) then
  some ((-2 : Int32), h)
  else
  (if x2 < (7 : Int32) then
  (zgR h a0 11 0).bind fun a_1 =>
  (zis h a_1 6).bind fun _ =>
  zcall (fX6_hasMaster N h a_1 x1) fun v_3 h_2 =>
  (if v_3 = (0) then
  some ((-11 : Int32), h_2)
  else
  (zis h_2 a0 11).bind fun _ =>
  zcall (fX11_mannersOf N h_2 a0 x1) fun a_6 h_5 =>
  zcall (fX11_isUnder N h_5 a_6 x2) fun v_9 h_8 =>
  (if v_9 = (0) then
  some ((-12 : Int32), h_8)
  else
  (zgR h_8 a0 11 0).bind fun a_10 =>
  (zgR h_8 a_10 6 1).bind fun a_11 =>
  (zald 0 h_8 a_11 x1).bind fun v_12 =>
  some (v_12, h_8)))
  else
  some ((-2 : Int32), h)))
theorem kX11_taken {l : Launch} {g : zG} (N : Nat) (h : AH) (a0 : Nat) (x1 : Int32) (x2 : Int32) : zM l g yX11_taken cX11_taken 3 (some .int) (2) 0 0 (fun v : Int32 => some (.int v)) (fX11_taken N h a0 x1 x2) h [.ref a0, .int x1, .int x2] := by
  refine zM.of (lv0 := [(0, .ref a0), (1, .int x1), (2, .int x2)]) (by decide) (Nat.le_of_ble_eq_true rfl) rfl (fun X hX C => ?_)
  subst hX
  unfold fX11_taken
  refine z_iload_n C 2 dX11_taken_0 rfl ?_
  refine z_iflt C 10 dX11_taken_1 rfl ?_ ?_
  · refine z_bipush (v := (-2 : Int32)) C dX11_taken_10 rfl ?_
    exact z_ireturn C ⟨rfl, rfl⟩ dX11_taken_12
  · refine z_iload_n C 2 dX11_taken_4 rfl ?_
    refine z_bipush (v := (7 : Int32)) C dX11_taken_5 rfl ?_
    refine z_icmplt C 13 dX11_taken_7 rfl ?_ ?_
    · refine z_aload_n C 0 dX11_taken_13 rfl ?_
      refine z_getR C qX11_12 dX11_taken_14 (fun a_1 => ?_)
      refine z_iload_n C 1 dX11_taken_17 rfl ?_
      refine z_bind (fun _ q_4 => ?_)
      refine z_calli (z_runV (As := [.int x1]) (rest := []) C mX11_97 (kX6_hasMaster N h a_1 x1) q_4 (Nat.le_of_ble_eq_true rfl) ⟨Nat.zero_le _, Nat.zero_le _⟩ dX11_taken_18 rfl rfl (Nat.le_of_ble_eq_true rfl)) rfl (fun v_3 h_2 => ?_)
      refine z_ifne C 27 dX11_taken_21 rfl ?_ ?_
      · refine z_aload_n C 0 dX11_taken_27 rfl ?_
        refine z_iload_n C 1 dX11_taken_28 rfl ?_
        refine z_bind (fun _ q_7 => ?_)
        refine z_callr (z_runV (As := [.int x1]) (rest := []) C mX11_295 (kX11_mannersOf N h_2 a0 x1) q_7 (Nat.le_of_ble_eq_true rfl) ⟨Nat.zero_le _, Nat.zero_le _⟩ dX11_taken_29 rfl rfl (Nat.le_of_ble_eq_true rfl)) rfl (fun a_6 h_5 => ?_)
        refine z_iload_n C 2 dX11_taken_32 rfl ?_
        refine z_calli (z_runS (As := [.ref a_6, .int x2]) (rest := []) C mX11_315 (kX11_isUnder N h_5 a_6 x2) (Nat.le_of_ble_eq_true rfl) ⟨Nat.zero_le _, Nat.zero_le _⟩ dX11_taken_33 rfl rfl (Nat.le_of_ble_eq_true rfl)) rfl (fun v_9 h_8 => ?_)
        refine z_ifeq C 51 dX11_taken_36 rfl ?_ ?_
        · refine z_bipush (v := (-12 : Int32)) C dX11_taken_51 rfl ?_
          exact z_ireturn C ⟨rfl, rfl⟩ dX11_taken_53
        · refine z_aload_n C 0 dX11_taken_39 rfl ?_
          refine z_getR C qX11_12 dX11_taken_40 (fun a_10 => ?_)
          refine z_getR C qX11_104 dX11_taken_43 (fun a_11 => ?_)
          refine z_iload_n C 1 dX11_taken_46 rfl ?_
          refine z_iaload C dX11_taken_47 (fun v_12 => ?_)
          refine z_goto C 53 dX11_taken_48 rfl ?_
          exact z_ireturn C ⟨rfl, rfl⟩ dX11_taken_53
      · refine z_bipush (v := (-11 : Int32)) C dX11_taken_24 rfl ?_
        exact z_ireturn C ⟨rfl, rfl⟩ dX11_taken_26
    · refine z_bipush (v := (-2 : Int32)) C dX11_taken_10 rfl ?_
      exact z_ireturn C ⟨rfl, rfl⟩ dX11_taken_12
def fX11_count (N : Nat) (h : AH) (a0 : Nat) (x1 : Int32) : Option (Int32 × AH) :=
  (if x1 = (0 : Int32) then
  (zgR h a0 11 0).bind fun a_2 =>
  (zgI h a_2 6 0).bind fun v_3 =>
  some (v_3, h)
  else if x1 = (1 : Int32) then
  (zgR h a0 11 0).bind fun a_5 =>
  (zgI h a_5 6 5).bind fun v_6 =>
  some (v_6, h)
  else if x1 = (2 : Int32) then
  (zgR h a0 11 0).bind fun a_8 =>
  (zgI h a_8 6 9).bind fun v_9 =>
  some (v_9, h)
  else if x1 = (3 : Int32) then
  (zgI h a0 11 6).bind fun v_11 =>
  some (v_11, h)
  else if x1 = (4 : Int32) then
  (zgR h a0 11 0).bind fun a_13 =>
  (zgI h a_13 6 14).bind fun v_14 =>
  some (v_14, h)
  else if x1 = (5 : Int32) then
  (zgR h a0 11 0).bind fun a_16 =>
  (zgI h a_16 6 16).bind fun v_17 =>
  some (v_17, h)
  else if x1 = (6 : Int32) then
  (zgR h a0 11 0).bind fun a_19 =>
  (zgI h a_19 6 18).bind fun v_20 =>
  some (v_20, h)
  else if x1 = (7 : Int32) then
  (zgI h a0 11 8).bind fun v_22 =>
  some (v_22, h)
  else if x1 = (8 : Int32) then
  (zgR h a0 11 9).bind fun a_24 =>
  (zgI h a_24 10 2).bind fun v_25 =>
  some (v_25, h)
  else 
  some ((-2 : Int32), h))
theorem kX11_count {l : Launch} {g : zG} (N : Nat) (h : AH) (a0 : Nat) (x1 : Int32) : zM l g yX11_count cX11_count 2 (some .int) (1) 0 0 (fun v : Int32 => some (.int v)) (fX11_count N h a0 x1) h [.ref a0, .int x1] := by
  refine zM.of (lv0 := [(0, .ref a0), (1, .int x1)]) (by decide) (Nat.le_of_ble_eq_true rfl) rfl (fun X hX C => ?_)
  subst hX
  unfold fX11_count
  refine z_iload_n C 1 dX11_count_0 rfl ?_
  refine z_ite (fun q_1 => ?_) (fun q_1 => ?_)
  · subst q_1
    refine z_table C 52 dX11_count_1 (by decide) (by decide) rfl rfl ?_
    refine z_aload_n C 0 dX11_count_52 rfl ?_
    refine z_getR C qX11_12 dX11_count_53 (fun a_2 => ?_)
    refine z_getI C qX11_240 dX11_count_56 (fun v_3 => ?_)
    exact z_ireturn C ⟨rfl, rfl⟩ dX11_count_59
  refine z_ite (fun q_4 => ?_) (fun q_4 => ?_)
  · subst q_4
    refine z_table C 60 dX11_count_1 (by decide) (by decide) rfl rfl ?_
    refine z_aload_n C 0 dX11_count_60 rfl ?_
    refine z_getR C qX11_12 dX11_count_61 (fun a_5 => ?_)
    refine z_getI C qX11_319 dX11_count_64 (fun v_6 => ?_)
    exact z_ireturn C ⟨rfl, rfl⟩ dX11_count_67
  refine z_ite (fun q_7 => ?_) (fun q_7 => ?_)
  · subst q_7
    refine z_table C 68 dX11_count_1 (by decide) (by decide) rfl rfl ?_
    refine z_aload_n C 0 dX11_count_68 rfl ?_
    refine z_getR C qX11_12 dX11_count_69 (fun a_8 => ?_)
    refine z_getI C qX11_233 dX11_count_72 (fun v_9 => ?_)
    exact z_ireturn C ⟨rfl, rfl⟩ dX11_count_75
  refine z_ite (fun q_10 => ?_) (fun q_10 => ?_)
  · subst q_10
    refine z_table C 76 dX11_count_1 (by decide) (by decide) rfl rfl ?_
    refine z_aload_n C 0 dX11_count_76 rfl ?_
    refine z_getI C qX11_61 dX11_count_77 (fun v_11 => ?_)
    exact z_ireturn C ⟨rfl, rfl⟩ dX11_count_80
  refine z_ite (fun q_12 => ?_) (fun q_12 => ?_)
  · subst q_12
    refine z_table C 81 dX11_count_1 (by decide) (by decide) rfl rfl ?_
    refine z_aload_n C 0 dX11_count_81 rfl ?_
    refine z_getR C qX11_12 dX11_count_82 (fun a_13 => ?_)
    refine z_getI C qX11_205 dX11_count_85 (fun v_14 => ?_)
    exact z_ireturn C ⟨rfl, rfl⟩ dX11_count_88
  refine z_ite (fun q_15 => ?_) (fun q_15 => ?_)
  · subst q_15
    refine z_table C 89 dX11_count_1 (by decide) (by decide) rfl rfl ?_
    refine z_aload_n C 0 dX11_count_89 rfl ?_
    refine z_getR C qX11_12 dX11_count_90 (fun a_16 => ?_)
    refine z_getI C qX11_243 dX11_count_93 (fun v_17 => ?_)
    exact z_ireturn C ⟨rfl, rfl⟩ dX11_count_96
  refine z_ite (fun q_18 => ?_) (fun q_18 => ?_)
  · subst q_18
    refine z_table C 97 dX11_count_1 (by decide) (by decide) rfl rfl ?_
    refine z_aload_n C 0 dX11_count_97 rfl ?_
    refine z_getR C qX11_12 dX11_count_98 (fun a_19 => ?_)
    refine z_getI C qX11_256 dX11_count_101 (fun v_20 => ?_)
    exact z_ireturn C ⟨rfl, rfl⟩ dX11_count_104
  refine z_ite (fun q_21 => ?_) (fun q_21 => ?_)
  · subst q_21
    refine z_table C 105 dX11_count_1 (by decide) (by decide) rfl rfl ?_
    refine z_aload_n C 0 dX11_count_105 rfl ?_
    refine z_getI C qX11_69 dX11_count_106 (fun v_22 => ?_)
    exact z_ireturn C ⟨rfl, rfl⟩ dX11_count_109
  refine z_ite (fun q_23 => ?_) (fun q_23 => ?_)
  · subst q_23
    refine z_table C 110 dX11_count_1 (by decide) (by decide) rfl rfl ?_
    refine z_aload_n C 0 dX11_count_110 rfl ?_
    refine z_getR C qX11_75 dX11_count_111 (fun a_24 => ?_)
    refine z_getI C qX11_322 dX11_count_114 (fun v_25 => ?_)
    exact z_ireturn C ⟨rfl, rfl⟩ dX11_count_117
  refine z_tableO C 118 dX11_count_1 (by have eq_1 := lv_neT (a := 0) q_1 rfl; have eq_4 := lv_neT (a := 1) q_4 rfl; have eq_7 := lv_neT (a := 2) q_7 rfl; have eq_10 := lv_neT (a := 3) q_10 rfl; have eq_12 := lv_neT (a := 4) q_12 rfl; have eq_15 := lv_neT (a := 5) q_15 rfl; have eq_18 := lv_neT (a := 6) q_18 rfl; have eq_21 := lv_neT (a := 7) q_21 rfl; have eq_23 := lv_neT (a := 8) q_23 rfl; omega) rfl ?_
  refine z_bipush (v := (-2 : Int32)) C dX11_count_118 rfl ?_
  exact z_ireturn C ⟨rfl, rfl⟩ dX11_count_120
def fX11_tape (N : Nat) (h : AH) (a0 : Nat) (x1 : Int32) (x2 : Int32) (x3 : Int32) : Option (Int32 × AH) :=
  zcall (fX11_isTape N h x1) fun v_2 h_1 =>
  (if v_2 = (0) then
  some ((-1 : Int32), h_1)
  else
  (if x2 = (-1 : Int32) then
  (zgR h_1 a0 11 10).bind fun a_7 =>
  (zaald 6 h_1 a_7 x1).bind fun a_8 =>
  (zis h_1 a_8 8).bind fun _ =>
  zcall (fX8_become N h_1 a_8 (-1 : Int32) (0 : Int32)) fun _ h_9 =>
  some ((1 : Int32), h_9)
  else
  (if x2 < (0) then
  some ((-2 : Int32), h_1)
  else
  (if (4 : Int32) < x2 then
  some ((-2 : Int32), h_1)
  else
  (if x3 ≤ (60 : Int32) then
  (if (0) ≤ x3 then
  (zgR h_1 a0 11 10).bind fun a_3 =>
  (zaald 6 h_1 a_3 x1).bind fun a_4 =>
  (zis h_1 a_4 8).bind fun _ =>
  zcall (fX8_become N h_1 a_4 x2 x3) fun _ h_5 =>
  some ((1 : Int32), h_5)
  else
  some ((-14 : Int32), h_1))
  else
  some ((-2 : Int32), h_1))))))
theorem kX11_tape {l : Launch} {g : zG} (N : Nat) (h : AH) (a0 : Nat) (x1 : Int32) (x2 : Int32) (x3 : Int32) : zM l g yX11_tape cX11_tape 4 (some .int) (3) 0 0 (fun v : Int32 => some (.int v)) (fX11_tape N h a0 x1 x2 x3) h [.ref a0, .int x1, .int x2, .int x3] := by
  refine zM.of (lv0 := [(0, .ref a0), (1, .int x1), (2, .int x2), (3, .int x3)]) (by decide) (Nat.le_of_ble_eq_true rfl) rfl (fun X hX C => ?_)
  subst hX
  unfold fX11_tape
  refine z_iload_n C 1 dX11_tape_0 rfl ?_
  refine z_calli (z_runS (As := [.int x1]) (rest := []) C mX11_265 (kX11_isTape N h x1) (Nat.le_of_ble_eq_true rfl) ⟨Nat.zero_le _, Nat.zero_le _⟩ dX11_tape_1 rfl rfl (Nat.le_of_ble_eq_true rfl)) rfl (fun v_2 h_1 => ?_)
  refine z_ifne C 9 dX11_tape_4 rfl ?_ ?_
  · refine z_iload_n C 2 dX11_tape_9 rfl ?_
    refine z_iconst (v := (-1 : Int32)) C dX11_tape_10 rfl ?_
    refine z_icmpne C 27 dX11_tape_11 rfl ?_ ?_
    · refine z_iload_n C 2 dX11_tape_27 rfl ?_
      refine z_iflt C 42 dX11_tape_28 rfl ?_ ?_
      · refine z_bipush (v := (-2 : Int32)) C dX11_tape_42 rfl ?_
        exact z_ireturn C ⟨rfl, rfl⟩ dX11_tape_44
      · refine z_iload_n C 2 dX11_tape_31 rfl ?_
        refine z_iconst (v := (4 : Int32)) C dX11_tape_32 rfl ?_
        refine z_icmpgt C 42 dX11_tape_33 rfl ?_ ?_
        · refine z_bipush (v := (-2 : Int32)) C dX11_tape_42 rfl ?_
          exact z_ireturn C ⟨rfl, rfl⟩ dX11_tape_44
        · refine z_iload_n C 3 dX11_tape_36 rfl ?_
          refine z_bipush (v := (60 : Int32)) C dX11_tape_37 rfl ?_
          refine z_icmple C 45 dX11_tape_39 rfl ?_ ?_
          · refine z_iload_n C 3 dX11_tape_45 rfl ?_
            refine z_ifge C 52 dX11_tape_46 rfl ?_ ?_
            · refine z_aload_n C 0 dX11_tape_52 rfl ?_
              refine z_getR C qX11_81 dX11_tape_53 (fun a_3 => ?_)
              refine z_iload_n C 1 dX11_tape_56 rfl ?_
              refine z_aaload C (by decide) dX11_tape_57 (fun a_4 => ?_)
              refine z_iload_n C 2 dX11_tape_58 rfl ?_
              refine z_iload_n C 3 dX11_tape_59 rfl ?_
              refine z_bind (fun _ q_6 => ?_)
              refine z_callv (z_runV (As := [.int x2, .int x3]) (rest := []) C mX11_325 (kX8_become N h_1 a_4 x2 x3) q_6 (Nat.le_of_ble_eq_true rfl) ⟨Nat.zero_le _, Nat.zero_le _⟩ dX11_tape_60 rfl rfl (Nat.le_of_ble_eq_true rfl)) rfl (fun _ h_5 => ?_)
              refine z_iconst (v := (1 : Int32)) C dX11_tape_63 rfl ?_
              exact z_ireturn C ⟨rfl, rfl⟩ dX11_tape_64
            · refine z_bipush (v := (-14 : Int32)) C dX11_tape_49 rfl ?_
              exact z_ireturn C ⟨rfl, rfl⟩ dX11_tape_51
          · refine z_bipush (v := (-2 : Int32)) C dX11_tape_42 rfl ?_
            exact z_ireturn C ⟨rfl, rfl⟩ dX11_tape_44
    · refine z_aload_n C 0 dX11_tape_14 rfl ?_
      refine z_getR C qX11_81 dX11_tape_15 (fun a_7 => ?_)
      refine z_iload_n C 1 dX11_tape_18 rfl ?_
      refine z_aaload C (by decide) dX11_tape_19 (fun a_8 => ?_)
      refine z_iconst (v := (-1 : Int32)) C dX11_tape_20 rfl ?_
      refine z_iconst (v := (0 : Int32)) C dX11_tape_21 rfl ?_
      refine z_bind (fun _ q_10 => ?_)
      refine z_callv (z_runV (As := [.int (-1 : Int32), .int (0 : Int32)]) (rest := []) C mX11_325 (kX8_become N h_1 a_8 (-1 : Int32) (0 : Int32)) q_10 (Nat.le_of_ble_eq_true rfl) ⟨Nat.zero_le _, Nat.zero_le _⟩ dX11_tape_22 rfl rfl (Nat.le_of_ble_eq_true rfl)) rfl (fun _ h_9 => ?_)
      refine z_iconst (v := (1 : Int32)) C dX11_tape_25 rfl ?_
      exact z_ireturn C ⟨rfl, rfl⟩ dX11_tape_26
  · refine z_iconst (v := (-1 : Int32)) C dX11_tape_7 rfl ?_
    exact z_ireturn C ⟨rfl, rfl⟩ dX11_tape_8
def fX11_item (N : Nat) (h : AH) (a0 : Nat) (x1 : Int32) (x2 : Int32) (x3 : Int64) : Option (Int32 × AH) :=
  zcall (fX11_isTape N h x1) fun v_2 h_1 =>
  (if v_2 = (0) then
  some ((-1 : Int32), h_1)
  else
  (zgR h_1 a0 11 10).bind fun a_3 =>
  (zaald 6 h_1 a_3 x1).bind fun a_4 =>
  (zis h_1 a_4 8).bind fun _ =>
  zcall (fX8_holdsRow N h_1 a_4) fun v_6 h_5 =>
  (if v_6 = (0) then
  some ((-11 : Int32), h_5)
  else
  (zis h_5 a_4 8).bind fun _ =>
  zcall (fX8_hasPlace N h_5 a_4 (x2.toInt64)) fun v_9 h_8 =>
  (if v_9 = (0) then
  some ((-13 : Int32), h_8)
  else
  (zgR h_8 a_4 8 2).bind fun a_11 =>
  (zis h_8 a_4 8).bind fun _ =>
  zcall (fX8_narrowed N h_8 a_4 x3) fun v_13 h_12 =>
  (zlast h_12 a_11 x2 v_13).bind fun h_15 =>
  some ((1 : Int32), h_15))))
theorem kX11_item {l : Launch} {g : zG} (N : Nat) (h : AH) (a0 : Nat) (x1 : Int32) (x2 : Int32) (x3 : Int64) : zM l g yX11_item cX11_item 6 (some .int) (3) 0 0 (fun v : Int32 => some (.int v)) (fX11_item N h a0 x1 x2 x3) h [.ref a0, .int x1, .int x2, .long x3] := by
  refine zM.of (lv0 := [(0, .ref a0), (1, .int x1), (2, .int x2), (3, .long x3)]) (by decide) (Nat.le_of_ble_eq_true rfl) rfl (fun X hX C => ?_)
  subst hX
  unfold fX11_item
  refine z_iload_n C 1 dX11_item_0 rfl ?_
  refine z_calli (z_runS (As := [.int x1]) (rest := []) C mX11_265 (kX11_isTape N h x1) (Nat.le_of_ble_eq_true rfl) ⟨Nat.zero_le _, Nat.zero_le _⟩ dX11_item_1 rfl rfl (Nat.le_of_ble_eq_true rfl)) rfl (fun v_2 h_1 => ?_)
  refine z_ifne C 9 dX11_item_4 rfl ?_ ?_
  · refine z_aload_n C 0 dX11_item_9 rfl ?_
    refine z_getR C qX11_81 dX11_item_10 (fun a_3 => ?_)
    refine z_iload_n C 1 dX11_item_13 rfl ?_
    refine z_aaload C (by decide) dX11_item_14 (fun a_4 => ?_)
    refine z_astore C dX11_item_15 [(5, .ref a_4), (0, .ref a0), (1, .int x1), (2, .int x2), (3, .long x3)] (by decide) rfl ?_
    refine z_aload C 0 dX11_item_17 rfl ?_
    refine z_bind (fun _ q_7 => ?_)
    refine z_calli (z_runV (As := []) (rest := []) C mX11_268 (kX8_holdsRow N h_1 a_4) q_7 (Nat.le_of_ble_eq_true rfl) ⟨Nat.zero_le _, Nat.zero_le _⟩ dX11_item_19 rfl rfl (Nat.le_of_ble_eq_true rfl)) rfl (fun v_6 h_5 => ?_)
    refine z_ifne C 28 dX11_item_22 rfl ?_ ?_
    · refine z_aload C 0 dX11_item_28 rfl ?_
      refine z_iload_n C 3 dX11_item_30 rfl ?_
      refine z_i2l C dX11_item_31 ?_
      refine z_bind (fun _ q_10 => ?_)
      refine z_calli (z_runV (As := [.long (x2.toInt64)]) (rest := []) C mX11_274 (kX8_hasPlace N h_5 a_4 (x2.toInt64)) q_10 (Nat.le_of_ble_eq_true rfl) ⟨Nat.zero_le _, Nat.zero_le _⟩ dX11_item_32 rfl rfl (Nat.le_of_ble_eq_true rfl)) rfl (fun v_9 h_8 => ?_)
      refine z_ifne C 41 dX11_item_35 rfl ?_ ?_
      · refine z_aload C 0 dX11_item_41 rfl ?_
        refine z_getR C qX11_278 dX11_item_43 (fun a_11 => ?_)
        refine z_iload_n C 3 dX11_item_46 rfl ?_
        refine z_aload C 0 dX11_item_47 rfl ?_
        refine z_lload_n C 4 dX11_item_49 rfl ?_
        refine z_bind (fun _ q_14 => ?_)
        refine z_calll (z_runV (As := [.long x3]) (rest := [.int x2, .ref a_11]) C mX11_329 (kX8_narrowed N h_8 a_4 x3) q_14 (Nat.le_of_ble_eq_true rfl) ⟨Nat.zero_le _, Nat.zero_le _⟩ dX11_item_50 rfl rfl (Nat.le_of_ble_eq_true rfl)) rfl (fun v_13 h_12 => ?_)
        refine z_lastore C dX11_item_53 (fun h_15 => ?_)
        refine z_iconst (v := (1 : Int32)) C dX11_item_54 rfl ?_
        exact z_ireturn C ⟨rfl, rfl⟩ dX11_item_55
      · refine z_bipush (v := (-13 : Int32)) C dX11_item_38 rfl ?_
        exact z_ireturn C ⟨rfl, rfl⟩ dX11_item_40
    · refine z_bipush (v := (-11 : Int32)) C dX11_item_25 rfl ?_
      exact z_ireturn C ⟨rfl, rfl⟩ dX11_item_27
  · refine z_iconst (v := (-1 : Int32)) C dX11_item_7 rfl ?_
    exact z_ireturn C ⟨rfl, rfl⟩ dX11_item_8
def fX11_read (N : Nat) (h : AH) (a0 : Nat) (x1 : Int32) (x2 : Int32) : Option (Int64 × AH) :=
  zcall (fX11_isTape N h x1) fun v_2 h_1 =>
  (if v_2 = (0) then
  some ((-9223372036854775808 : Int64), h_1)
  else
  (zgR h_1 a0 11 10).bind fun a_3 =>
  (zaald 6 h_1 a_3 x1).bind fun a_4 =>
  (zis h_1 a_4 8).bind fun _ =>
  zcall (fX8_hasPlace N h_1 a_4 (x2.toInt64)) fun v_6 h_5 =>
  (if v_6 = (0) then
  some ((-9223372036854775808 : Int64), h_5)
  else
  (zgR h_5 a0 11 10).bind fun a_8 =>
  (zaald 6 h_5 a_8 x1).bind fun a_9 =>
  (zgR h_5 a_9 8 2).bind fun a_10 =>
  (zlald h_5 a_10 x2).bind fun v_11 =>
  some (v_11, h_5)))
theorem kX11_read {l : Launch} {g : zG} (N : Nat) (h : AH) (a0 : Nat) (x1 : Int32) (x2 : Int32) : zM l g yX11_read cX11_read 3 (some .long) (3) 0 0 (fun v : Int64 => some (.long v)) (fX11_read N h a0 x1 x2) h [.ref a0, .int x1, .int x2] := by
  refine zM.of (lv0 := [(0, .ref a0), (1, .int x1), (2, .int x2)]) (by decide) (Nat.le_of_ble_eq_true rfl) rfl (fun X hX C => ?_)
  subst hX
  unfold fX11_read
  refine z_iload_n C 1 dX11_read_0 rfl ?_
  refine z_calli (z_runS (As := [.int x1]) (rest := []) C mX11_265 (kX11_isTape N h x1) (Nat.le_of_ble_eq_true rfl) ⟨Nat.zero_le _, Nat.zero_le _⟩ dX11_read_1 rfl rfl (Nat.le_of_ble_eq_true rfl)) rfl (fun v_2 h_1 => ?_)
  refine z_ifeq C 21 dX11_read_4 rfl ?_ ?_
  · refine z_ldc2_w (v := (-9223372036854775808 : Int64)) C dX11_read_21 (tblG_at 801 (by decide +kernel) (by decide +kernel)) ?_
    exact z_lreturn C ⟨rfl, rfl⟩ dX11_read_24
  · refine z_aload_n C 0 dX11_read_7 rfl ?_
    refine z_getR C qX11_81 dX11_read_8 (fun a_3 => ?_)
    refine z_iload_n C 1 dX11_read_11 rfl ?_
    refine z_aaload C (by decide) dX11_read_12 (fun a_4 => ?_)
    refine z_iload_n C 2 dX11_read_13 rfl ?_
    refine z_i2l C dX11_read_14 ?_
    refine z_bind (fun _ q_7 => ?_)
    refine z_calli (z_runV (As := [.long (x2.toInt64)]) (rest := []) C mX11_274 (kX8_hasPlace N h_1 a_4 (x2.toInt64)) q_7 (Nat.le_of_ble_eq_true rfl) ⟨Nat.zero_le _, Nat.zero_le _⟩ dX11_read_15 rfl rfl (Nat.le_of_ble_eq_true rfl)) rfl (fun v_6 h_5 => ?_)
    refine z_ifne C 25 dX11_read_18 rfl ?_ ?_
    · refine z_aload_n C 0 dX11_read_25 rfl ?_
      refine z_getR C qX11_81 dX11_read_26 (fun a_8 => ?_)
      refine z_iload_n C 1 dX11_read_29 rfl ?_
      refine z_aaload C (by decide) dX11_read_30 (fun a_9 => ?_)
      refine z_getR C qX11_278 dX11_read_31 (fun a_10 => ?_)
      refine z_iload_n C 2 dX11_read_34 rfl ?_
      refine z_laload C dX11_read_35 (fun v_11 => ?_)
      exact z_lreturn C ⟨rfl, rfl⟩ dX11_read_36
    · refine z_ldc2_w (v := (-9223372036854775808 : Int64)) C dX11_read_21 (tblG_at 801 (by decide +kernel) (by decide +kernel)) ?_
      exact z_lreturn C ⟨rfl, rfl⟩ dX11_read_24
def fX11_shift (N : Nat) (h : AH) (a0 : Nat) (x1 : Int32) (x2 : Int32) (x3 : Int32) (x4 : Int32) (x5 : Int32) : Option (Int32 × AH) :=
  zcall (fX11_isTape N h x1) fun v_2 h_1 =>
  (if v_2 = (0) then
  some ((-1 : Int32), h_1)
  else
  zcall (fX11_isTape N h_1 x3) fun v_4 h_3 =>
  (if v_4 = (0) then
  some ((-1 : Int32), h_3)
  else
  (zgR h_3 a0 11 10).bind fun a_5 =>
  (zaald 6 h_3 a_5 x1).bind fun a_6 =>
  (zgR h_3 a0 11 10).bind fun a_7 =>
  (zaald 6 h_3 a_7 x3).bind fun a_8 =>
  (zis h_3 a_6 8).bind fun _ =>
  zcall (fX8_holdsRow N h_3 a_6) fun v_10 h_9 =>
  (if v_10 = (0) then
  some ((-11 : Int32), h_9)
  else
  (zis h_9 a_8 8).bind fun _ =>
  zcall (fX8_holdsRow N h_9 a_8) fun v_13 h_12 =>
  (if v_13 = (0) then
  some ((-11 : Int32), h_12)
  else
  (zgI h_12 a_6 8 0).bind fun v_15 =>
  (zgI h_12 a_8 8 0).bind fun v_16 =>
  (if v_15 = v_16 then
  (zis h_12 a_6 8).bind fun _ =>
  zcall (fX8_hasStretch N h_12 a_6 x2 x5) fun v_18 h_17 =>
  (if v_18 = (0) then
  some ((-13 : Int32), h_17)
  else
  (zis h_17 a_8 8).bind fun _ =>
  zcall (fX8_hasStretch N h_17 a_8 x4 x5) fun v_21 h_20 =>
  (if v_21 = (0) then
  some ((-13 : Int32), h_20)
  else
  (zgR h_20 a_6 8 2).bind fun a_23 =>
  (zgR h_20 a_8 8 2).bind fun a_24 =>
  (zcopyL h_20 a_23 x2 a_24 x4 x5).bind fun h_25 =>
  some (x5, h_25)))
  else
  some ((-12 : Int32), h_12))))))
theorem kX11_shift {l : Launch} {g : zG} (N : Nat) (h : AH) (a0 : Nat) (x1 : Int32) (x2 : Int32) (x3 : Int32) (x4 : Int32) (x5 : Int32) : zM l g yX11_shift cX11_shift 8 (some .int) (2) 0 0 (fun v : Int32 => some (.int v)) (fX11_shift N h a0 x1 x2 x3 x4 x5) h [.ref a0, .int x1, .int x2, .int x3, .int x4, .int x5] := by
  refine zM.of (lv0 := [(0, .ref a0), (1, .int x1), (2, .int x2), (3, .int x3), (4, .int x4), (5, .int x5)]) (by decide) (Nat.le_of_ble_eq_true rfl) rfl (fun X hX C => ?_)
  subst hX
  unfold fX11_shift
  refine z_iload_n C 1 dX11_shift_0 rfl ?_
  refine z_calli (z_runS (As := [.int x1]) (rest := []) C mX11_265 (kX11_isTape N h x1) (Nat.le_of_ble_eq_true rfl) ⟨Nat.zero_le _, Nat.zero_le _⟩ dX11_shift_1 rfl rfl (Nat.le_of_ble_eq_true rfl)) rfl (fun v_2 h_1 => ?_)
  refine z_ifeq C 14 dX11_shift_4 rfl ?_ ?_
  · refine z_iconst (v := (-1 : Int32)) C dX11_shift_14 rfl ?_
    exact z_ireturn C ⟨rfl, rfl⟩ dX11_shift_15
  · refine z_iload_n C 3 dX11_shift_7 rfl ?_
    refine z_calli (z_runS (As := [.int x3]) (rest := []) C mX11_265 (kX11_isTape N h_1 x3) (Nat.le_of_ble_eq_true rfl) ⟨Nat.zero_le _, Nat.zero_le _⟩ dX11_shift_8 rfl rfl (Nat.le_of_ble_eq_true rfl)) rfl (fun v_4 h_3 => ?_)
    refine z_ifne C 16 dX11_shift_11 rfl ?_ ?_
    · refine z_aload_n C 0 dX11_shift_16 rfl ?_
      refine z_getR C qX11_81 dX11_shift_17 (fun a_5 => ?_)
      refine z_iload_n C 1 dX11_shift_20 rfl ?_
      refine z_aaload C (by decide) dX11_shift_21 (fun a_6 => ?_)
      refine z_astore C dX11_shift_22 [(6, .ref a_6), (0, .ref a0), (1, .int x1), (2, .int x2), (3, .int x3), (4, .int x4), (5, .int x5)] (by decide) rfl ?_
      refine z_aload_n C 1 dX11_shift_24 rfl ?_
      refine z_getR C qX11_81 dX11_shift_25 (fun a_7 => ?_)
      refine z_iload_n C 4 dX11_shift_28 rfl ?_
      refine z_aaload C (by decide) dX11_shift_29 (fun a_8 => ?_)
      refine z_astore C dX11_shift_30 [(7, .ref a_8), (6, .ref a_6), (0, .ref a0), (1, .int x1), (2, .int x2), (3, .int x3), (4, .int x4), (5, .int x5)] (by decide) rfl ?_
      refine z_aload C 1 dX11_shift_32 rfl ?_
      refine z_bind (fun _ q_11 => ?_)
      refine z_calli (z_runV (As := []) (rest := []) C mX11_268 (kX8_holdsRow N h_3 a_6) q_11 (Nat.le_of_ble_eq_true rfl) ⟨Nat.zero_le _, Nat.zero_le _⟩ dX11_shift_34 rfl rfl (Nat.le_of_ble_eq_true rfl)) rfl (fun v_10 h_9 => ?_)
      refine z_ifeq C 48 dX11_shift_37 rfl ?_ ?_
      · refine z_bipush (v := (-11 : Int32)) C dX11_shift_48 rfl ?_
        exact z_ireturn C ⟨rfl, rfl⟩ dX11_shift_50
      · refine z_aload C 0 dX11_shift_40 rfl ?_
        refine z_bind (fun _ q_14 => ?_)
        refine z_calli (z_runV (As := []) (rest := []) C mX11_268 (kX8_holdsRow N h_9 a_8) q_14 (Nat.le_of_ble_eq_true rfl) ⟨Nat.zero_le _, Nat.zero_le _⟩ dX11_shift_42 rfl rfl (Nat.le_of_ble_eq_true rfl)) rfl (fun v_13 h_12 => ?_)
        refine z_ifne C 51 dX11_shift_45 rfl ?_ ?_
        · refine z_aload C 1 dX11_shift_51 rfl ?_
          refine z_getI C qX11_271 dX11_shift_53 (fun v_15 => ?_)
          refine z_aload C 0 dX11_shift_56 rfl ?_
          refine z_getI C qX11_271 dX11_shift_58 (fun v_16 => ?_)
          refine z_icmpeq C 67 dX11_shift_61 rfl ?_ ?_
          · refine z_aload C 1 dX11_shift_67 rfl ?_
            refine z_iload_n C 4 dX11_shift_69 rfl ?_
            refine z_iload C 7 dX11_shift_70 rfl ?_
            refine z_bind (fun _ q_19 => ?_)
            refine z_calli (z_runV (As := [.int x2, .int x5]) (rest := []) C mX11_333 (kX8_hasStretch N h_12 a_6 x2 x5) q_19 (Nat.le_of_ble_eq_true rfl) ⟨Nat.zero_le _, Nat.zero_le _⟩ dX11_shift_72 rfl rfl (Nat.le_of_ble_eq_true rfl)) rfl (fun v_18 h_17 => ?_)
            refine z_ifeq C 90 dX11_shift_75 rfl ?_ ?_
            · refine z_bipush (v := (-13 : Int32)) C dX11_shift_90 rfl ?_
              exact z_ireturn C ⟨rfl, rfl⟩ dX11_shift_92
            · refine z_aload C 0 dX11_shift_78 rfl ?_
              refine z_iload C 6 dX11_shift_80 rfl ?_
              refine z_iload C 7 dX11_shift_82 rfl ?_
              refine z_bind (fun _ q_22 => ?_)
              refine z_calli (z_runV (As := [.int x4, .int x5]) (rest := []) C mX11_333 (kX8_hasStretch N h_17 a_8 x4 x5) q_22 (Nat.le_of_ble_eq_true rfl) ⟨Nat.zero_le _, Nat.zero_le _⟩ dX11_shift_84 rfl rfl (Nat.le_of_ble_eq_true rfl)) rfl (fun v_21 h_20 => ?_)
              refine z_ifne C 93 dX11_shift_87 rfl ?_ ?_
              · refine z_aload C 1 dX11_shift_93 rfl ?_
                refine z_getR C qX11_278 dX11_shift_95 (fun a_23 => ?_)
                refine z_iload_n C 4 dX11_shift_98 rfl ?_
                refine z_aload C 0 dX11_shift_99 rfl ?_
                refine z_getR C qX11_278 dX11_shift_101 (fun a_24 => ?_)
                refine z_iload C 6 dX11_shift_104 rfl ?_
                refine z_iload C 7 dX11_shift_106 rfl ?_
                refine z_copyL C w709 dX11_shift_108 (Nat.le_of_ble_eq_true rfl) (by omega) (fun h_25 => ?_)
                refine z_iload C 7 dX11_shift_111 rfl ?_
                exact z_ireturn C ⟨rfl, rfl⟩ dX11_shift_113
              · refine z_bipush (v := (-13 : Int32)) C dX11_shift_90 rfl ?_
                exact z_ireturn C ⟨rfl, rfl⟩ dX11_shift_92
          · refine z_bipush (v := (-12 : Int32)) C dX11_shift_64 rfl ?_
            exact z_ireturn C ⟨rfl, rfl⟩ dX11_shift_66
        · refine z_bipush (v := (-11 : Int32)) C dX11_shift_48 rfl ?_
          exact z_ireturn C ⟨rfl, rfl⟩ dX11_shift_50
    · refine z_iconst (v := (-1 : Int32)) C dX11_shift_14 rfl ?_
      exact z_ireturn C ⟨rfl, rfl⟩ dX11_shift_15
