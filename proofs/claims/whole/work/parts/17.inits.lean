def fX7_init (N : Nat) (h : AH) (a0 : Nat) : Option (Unit × AH) :=
  some ((), h)
set_option maxRecDepth 4000 in
theorem kX7_init {l : Launch} {g : zG} (N : Nat) (h : AH) (a0 : Nat) : zM l g yX7_init cX7_init 1 none 1 0 0 (fun _ : Unit => none) (fX7_init N h a0) h [.ref a0] := by
  refine zM.of (lv0 := [(0, .ref a0)]) (by decide) (Nat.le_of_ble_eq_true rfl) rfl (fun X hX C => ?_)
  subst hX
  unfold fX7_init
  refine z_aload_n C 0 dX7_init_0 rfl ?_
  refine z_objInit C oX7_1 zObI zObC (Nat.le_of_ble_eq_true rfl) (Nat.le_of_ble_eq_true rfl) dX7_init_1 ?_
  exact z_return C ⟨rfl, rfl⟩ dX7_init_4
def fX4_init (N : Nat) (h : AH) (a0 : Nat) : Option (Unit × AH) :=
  zcall (fX7_init N h a0) fun _ h_1 =>
  some ((), h_1)
set_option maxRecDepth 4000 in
theorem kX4_init {l : Launch} {g : zG} (N : Nat) (h : AH) (a0 : Nat) : zM l g yX4_init cX4_init 1 none 2 0 0 (fun _ : Unit => none) (fX4_init N h a0) h [.ref a0] := by
  refine zM.of (lv0 := [(0, .ref a0)]) (by decide) (Nat.le_of_ble_eq_true rfl) rfl (fun X hX C => ?_)
  subst hX
  unfold fX4_init
  refine z_aload_n C 0 dX4_init_0 rfl ?_
  refine z_callc (u' := (0, 0, 0, 0)) (z_runIN (rest := []) C mX4_1 (kX7_init N h a0) (Nat.le_of_ble_eq_true rfl) ⟨Nat.le_of_ble_eq_true rfl, Nat.le_of_ble_eq_true rfl⟩ dX4_init_1 (Nat.le_of_ble_eq_true rfl)) rfl rfl (fun _ h_1 => ?_)
  exact z_return C ⟨rfl, rfl⟩ dX4_init_4
def fX3_init (N : Nat) (h : AH) (a0 : Nat) : Option (Unit × AH) :=
  zcall (fX7_init N h a0) fun _ h_1 =>
  some ((), h_1)
set_option maxRecDepth 4000 in
theorem kX3_init {l : Launch} {g : zG} (N : Nat) (h : AH) (a0 : Nat) : zM l g yX3_init cX3_init 1 none 2 0 0 (fun _ : Unit => none) (fX3_init N h a0) h [.ref a0] := by
  refine zM.of (lv0 := [(0, .ref a0)]) (by decide) (Nat.le_of_ble_eq_true rfl) rfl (fun X hX C => ?_)
  subst hX
  unfold fX3_init
  refine z_aload_n C 0 dX3_init_0 rfl ?_
  refine z_callc (u' := (0, 0, 0, 0)) (z_runIN (rest := []) C mX3_1 (kX7_init N h a0) (Nat.le_of_ble_eq_true rfl) ⟨Nat.le_of_ble_eq_true rfl, Nat.le_of_ble_eq_true rfl⟩ dX3_init_1 (Nat.le_of_ble_eq_true rfl)) rfl rfl (fun _ h_1 => ?_)
  exact z_return C ⟨rfl, rfl⟩ dX3_init_4
def fX1_init (N : Nat) (h : AH) (a0 : Nat) : Option (Unit × AH) :=
  zcall (fX7_init N h a0) fun _ h_1 =>
  some ((), h_1)
set_option maxRecDepth 4000 in
theorem kX1_init {l : Launch} {g : zG} (N : Nat) (h : AH) (a0 : Nat) : zM l g yX1_init cX1_init 1 none 2 0 0 (fun _ : Unit => none) (fX1_init N h a0) h [.ref a0] := by
  refine zM.of (lv0 := [(0, .ref a0)]) (by decide) (Nat.le_of_ble_eq_true rfl) rfl (fun X hX C => ?_)
  subst hX
  unfold fX1_init
  refine z_aload_n C 0 dX1_init_0 rfl ?_
  refine z_callc (u' := (0, 0, 0, 0)) (z_runIN (rest := []) C mX1_1 (kX7_init N h a0) (Nat.le_of_ble_eq_true rfl) ⟨Nat.le_of_ble_eq_true rfl, Nat.le_of_ble_eq_true rfl⟩ dX1_init_1 (Nat.le_of_ble_eq_true rfl)) rfl rfl (fun _ h_1 => ?_)
  exact z_return C ⟨rfl, rfl⟩ dX1_init_4
def fX0_init (N : Nat) (h : AH) (a0 : Nat) : Option (Unit × AH) :=
  zcall (fX4_init N h a0) fun _ h_1 =>
  some ((), h_1)
set_option maxRecDepth 4000 in
theorem kX0_init {l : Launch} {g : zG} (N : Nat) (h : AH) (a0 : Nat) : zM l g yX0_init cX0_init 1 none 3 0 0 (fun _ : Unit => none) (fX0_init N h a0) h [.ref a0] := by
  refine zM.of (lv0 := [(0, .ref a0)]) (by decide) (Nat.le_of_ble_eq_true rfl) rfl (fun X hX C => ?_)
  subst hX
  unfold fX0_init
  refine z_aload_n C 0 dX0_init_0 rfl ?_
  refine z_callc (u' := (0, 0, 0, 0)) (z_runIN (rest := []) C mX0_3 (kX4_init N h a0) (Nat.le_of_ble_eq_true rfl) ⟨Nat.le_of_ble_eq_true rfl, Nat.le_of_ble_eq_true rfl⟩ dX0_init_1 (Nat.le_of_ble_eq_true rfl)) rfl rfl (fun _ h_1 => ?_)
  exact z_return C ⟨rfl, rfl⟩ dX0_init_4
def fX2_init (N : Nat) (h : AH) (a0 : Nat) : Option (Unit × AH) :=
  zcall (fX3_init N h a0) fun _ h_1 =>
  some ((), h_1)
set_option maxRecDepth 4000 in
theorem kX2_init {l : Launch} {g : zG} (N : Nat) (h : AH) (a0 : Nat) : zM l g yX2_init cX2_init 1 none 3 0 0 (fun _ : Unit => none) (fX2_init N h a0) h [.ref a0] := by
  refine zM.of (lv0 := [(0, .ref a0)]) (by decide) (Nat.le_of_ble_eq_true rfl) rfl (fun X hX C => ?_)
  subst hX
  unfold fX2_init
  refine z_aload_n C 0 dX2_init_0 rfl ?_
  refine z_callc (u' := (0, 0, 0, 0)) (z_runIN (rest := []) C mX2_1 (kX3_init N h a0) (Nat.le_of_ble_eq_true rfl) ⟨Nat.le_of_ble_eq_true rfl, Nat.le_of_ble_eq_true rfl⟩ dX2_init_1 (Nat.le_of_ble_eq_true rfl)) rfl rfl (fun _ h_1 => ?_)
  exact z_return C ⟨rfl, rfl⟩ dX2_init_4
def fX9_init (N : Nat) (h : AH) (a0 : Nat) : Option (Unit × AH) :=
  zcall (fX1_init N h a0) fun _ h_1 =>
  some ((), h_1)
set_option maxRecDepth 4000 in
theorem kX9_init {l : Launch} {g : zG} (N : Nat) (h : AH) (a0 : Nat) : zM l g yX9_init cX9_init 1 none 3 0 0 (fun _ : Unit => none) (fX9_init N h a0) h [.ref a0] := by
  refine zM.of (lv0 := [(0, .ref a0)]) (by decide) (Nat.le_of_ble_eq_true rfl) rfl (fun X hX C => ?_)
  subst hX
  unfold fX9_init
  refine z_aload_n C 0 dX9_init_0 rfl ?_
  refine z_callc (u' := (0, 0, 0, 0)) (z_runIN (rest := []) C mX9_1 (kX1_init N h a0) (Nat.le_of_ble_eq_true rfl) ⟨Nat.le_of_ble_eq_true rfl, Nat.le_of_ble_eq_true rfl⟩ dX9_init_1 (Nat.le_of_ble_eq_true rfl)) rfl rfl (fun _ h_1 => ?_)
  exact z_return C ⟨rfl, rfl⟩ dX9_init_4
def fX10_init (N : Nat) (h : AH) (a0 : Nat) : Option (Unit × AH) :=
  (zput h a0 10 0 (.int (0 : Int32))).bind fun h_1 =>
  (zput h_1 a0 10 1 (.int (0 : Int32))).bind fun h_2 =>
  (zput h_2 a0 10 2 (.int (0 : Int32))).bind fun h_3 =>
  znew h_3 (.inl (0, 20, .inl (fun _ => 0))) fun a_4 h_5 =>
  (zput h_5 a0 10 3 (.ref a_4)).bind fun h_6 =>
  some ((), h_6)
set_option maxRecDepth 4000 in
theorem kX10_init {l : Launch} {g : zG} (N : Nat) (h : AH) (a0 : Nat) : zM l g yX10_init cX10_init 1 none 1 1 20 (fun _ : Unit => none) (fX10_init N h a0) h [.ref a0] := by
  refine zM.of (lv0 := [(0, .ref a0)]) (by decide) (Nat.le_of_ble_eq_true rfl) rfl (fun X hX C => ?_)
  subst hX
  unfold fX10_init
  refine z_aload_n C 0 dX10_init_0 rfl ?_
  refine z_objInit C oX10_1 zObI zObC (Nat.le_of_ble_eq_true rfl) (Nat.le_of_ble_eq_true rfl) dX10_init_1 ?_
  refine z_aload_n C 0 dX10_init_4 rfl ?_
  refine z_iconst (v := (0 : Int32)) C dX10_init_5 rfl ?_
  refine z_putI C pX10_7 dX10_init_6 (fun h_1 => ?_)
  refine z_aload_n C 0 dX10_init_9 rfl ?_
  refine z_iconst (v := (0 : Int32)) C dX10_init_10 rfl ?_
  refine z_putI C pX10_13 dX10_init_11 (fun h_2 => ?_)
  refine z_aload_n C 0 dX10_init_14 rfl ?_
  refine z_iconst (v := (0 : Int32)) C dX10_init_15 rfl ?_
  refine z_putI C pX10_16 dX10_init_16 (fun h_3 => ?_)
  refine z_aload_n C 0 dX10_init_19 rfl ?_
  refine z_bipush (v := (20 : Int32)) C dX10_init_20 rfl ?_
  refine z_newaI (u' := (1, 20, 1, 20)) C 20 zArI (by decide) rfl ⟨Nat.le_of_ble_eq_true rfl, Nat.le_of_ble_eq_true rfl⟩ dX10_init_22 (fun a_4 h_5 => ?_)
  refine z_putF C rfl pX10_19 rfl rfl dX10_init_24 (fun h_6 => ?_)
  exact z_return C ⟨rfl, rfl⟩ dX10_init_27
def fX8_init (N : Nat) (h : AH) (a0 : Nat) : Option (Unit × AH) :=
  (zput h a0 8 0 (.int (-1 : Int32))).bind fun h_1 =>
  (zput h_1 a0 8 1 (.int (0 : Int32))).bind fun h_2 =>
  znew h_2 (.inl (3, 60, .inr (.inl (fun _ => 0)))) fun a_3 h_4 =>
  (zput h_4 a0 8 2 (.ref a_3)).bind fun h_5 =>
  some ((), h_5)
set_option maxRecDepth 4000 in
theorem kX8_init {l : Launch} {g : zG} (N : Nat) (h : AH) (a0 : Nat) : zM l g yX8_init cX8_init 1 none 1 1 60 (fun _ : Unit => none) (fX8_init N h a0) h [.ref a0] := by
  refine zM.of (lv0 := [(0, .ref a0)]) (by decide) (Nat.le_of_ble_eq_true rfl) rfl (fun X hX C => ?_)
  subst hX
  unfold fX8_init
  refine z_aload_n C 0 dX8_init_0 rfl ?_
  refine z_objInit C oX8_3 zObI zObC (Nat.le_of_ble_eq_true rfl) (Nat.le_of_ble_eq_true rfl) dX8_init_1 ?_
  refine z_aload_n C 0 dX8_init_4 rfl ?_
  refine z_iconst (v := (-1 : Int32)) C dX8_init_5 rfl ?_
  refine z_putI C pX8_11 dX8_init_6 (fun h_1 => ?_)
  refine z_aload_n C 0 dX8_init_9 rfl ?_
  refine z_iconst (v := (0 : Int32)) C dX8_init_10 rfl ?_
  refine z_putI C pX8_15 dX8_init_11 (fun h_2 => ?_)
  refine z_aload_n C 0 dX8_init_14 rfl ?_
  refine z_bipush (v := (60 : Int32)) C dX8_init_15 rfl ?_
  refine z_newaJ (u' := (1, 60, 1, 60)) C 60 zArJ (by decide) rfl ⟨Nat.le_of_ble_eq_true rfl, Nat.le_of_ble_eq_true rfl⟩ dX8_init_17 (fun a_3 h_4 => ?_)
  refine z_putF C rfl pX8_18 rfl rfl dX8_init_19 (fun h_5 => ?_)
  exact z_return C ⟨rfl, rfl⟩ dX8_init_22
def fX5_init (N : Nat) (h : AH) (a0 : Nat) : Option (Unit × AH) :=
  (zput h a0 5 0 (.int (6 : Int32))).bind fun h_1 =>
  znew h_1 (.inl (0, 100, .inl (fun _ => 0))) fun a_2 h_3 =>
  (zput h_3 a0 5 1 (.ref a_2)).bind fun h_4 =>
  (zput h_4 a0 5 2 (.int (0 : Int32))).bind fun h_5 =>
  znew h_5 (.inl (0, 11, .inl (fun _ => 0))) fun a_6 h_7 =>
  (zput h_7 a0 5 3 (.ref a_6)).bind fun h_8 =>
  (zput h_8 a0 5 4 (.int (0 : Int32))).bind fun h_9 =>
  znew h_9 (.inl (1, 0, .inl (fun _ => 0))) fun a_10 h_11 =>
  (zput h_11 a0 5 5 (.ref a_10)).bind fun h_12 =>
  (zput h_12 a0 5 6 (.int (0 : Int32))).bind fun h_13 =>
  (zput h_13 a0 5 7 (.int (0 : Int32))).bind fun h_14 =>
  (zput h_14 a0 5 8 (.int (0 : Int32))).bind fun h_15 =>
  some ((), h_15)
set_option maxRecDepth 4000 in
theorem kX5_init {l : Launch} {g : zG} (N : Nat) (h : AH) (a0 : Nat) : zM l g yX5_init cX5_init 1 none 1 3 111 (fun _ : Unit => none) (fX5_init N h a0) h [.ref a0] := by
  refine zM.of (lv0 := [(0, .ref a0)]) (by decide) (Nat.le_of_ble_eq_true rfl) rfl (fun X hX C => ?_)
  subst hX
  unfold fX5_init
  refine z_aload_n C 0 dX5_init_0 rfl ?_
  refine z_objInit C oX5_5 zObI zObC (Nat.le_of_ble_eq_true rfl) (Nat.le_of_ble_eq_true rfl) dX5_init_1 ?_
  refine z_aload_n C 0 dX5_init_4 rfl ?_
  refine z_bipush (v := (6 : Int32)) C dX5_init_5 rfl ?_
  refine z_putI C pX5_11 dX5_init_7 (fun h_1 => ?_)
  refine z_aload_n C 0 dX5_init_10 rfl ?_
  refine z_bipush (v := (100 : Int32)) C dX5_init_11 rfl ?_
  refine z_newaI (u' := (1, 100, 3, 111)) C 100 zArI (by decide) rfl ⟨Nat.le_of_ble_eq_true rfl, Nat.le_of_ble_eq_true rfl⟩ dX5_init_13 (fun a_2 h_3 => ?_)
  refine z_putF C rfl pX5_15 rfl rfl dX5_init_15 (fun h_4 => ?_)
  refine z_aload_n C 0 dX5_init_18 rfl ?_
  refine z_iconst (v := (0 : Int32)) C dX5_init_19 rfl ?_
  refine z_putI C pX5_19 dX5_init_20 (fun h_5 => ?_)
  refine z_aload_n C 0 dX5_init_23 rfl ?_
  refine z_bipush (v := (11 : Int32)) C dX5_init_24 rfl ?_
  refine z_newaI (u' := (2, 111, 3, 111)) C 11 zArI (by decide) rfl ⟨Nat.le_of_ble_eq_true rfl, Nat.le_of_ble_eq_true rfl⟩ dX5_init_26 (fun a_6 h_7 => ?_)
  refine z_putF C rfl pX5_22 rfl rfl dX5_init_28 (fun h_8 => ?_)
  refine z_aload_n C 0 dX5_init_31 rfl ?_
  refine z_iconst (v := (0 : Int32)) C dX5_init_32 rfl ?_
  refine z_putI C pX5_25 dX5_init_33 (fun h_9 => ?_)
  refine z_aload_n C 0 dX5_init_36 rfl ?_
  refine z_iconst (v := (0 : Int32)) C dX5_init_37 rfl ?_
  refine z_newaB (u' := (3, 111, 3, 111)) C 0 zArB (by decide) rfl ⟨Nat.le_of_ble_eq_true rfl, Nat.le_of_ble_eq_true rfl⟩ dX5_init_38 (fun a_10 h_11 => ?_)
  refine z_put C pX5_28 rfl rfl dX5_init_40 (fun h_12 => ?_)
  refine z_aload_n C 0 dX5_init_43 rfl ?_
  refine z_iconst (v := (0 : Int32)) C dX5_init_44 rfl ?_
  refine z_putI C pX5_32 dX5_init_45 (fun h_13 => ?_)
  refine z_aload_n C 0 dX5_init_48 rfl ?_
  refine z_iconst (v := (0 : Int32)) C dX5_init_49 rfl ?_
  refine z_putI C pX5_35 dX5_init_50 (fun h_14 => ?_)
  refine z_aload_n C 0 dX5_init_53 rfl ?_
  refine z_iconst (v := (0 : Int32)) C dX5_init_54 rfl ?_
  refine z_putI C pX5_38 dX5_init_55 (fun h_15 => ?_)
  exact z_return C ⟨rfl, rfl⟩ dX5_init_58
def fX6_init (N : Nat) (h : AH) (a0 : Nat) : Option (Unit × AH) :=
  (zput h a0 6 0 (.int (0 : Int32))).bind fun h_1 =>
  znew h_1 (.inl (0, 6, .inl (fun _ => 0))) fun a_2 h_3 =>
  (zput h_3 a0 6 1 (.ref a_2)).bind fun h_4 =>
  znew h_4 (.inl (0, 6, .inl (fun _ => 0))) fun a_5 h_6 =>
  (zput h_6 a0 6 2 (.ref a_5)).bind fun h_7 =>
  znew h_7 (.inl (0, 6, .inl (fun _ => 0))) fun a_8 h_9 =>
  (zput h_9 a0 6 3 (.ref a_8)).bind fun h_10 =>
  znew h_10 (.inl (0, 24, .inl (fun _ => 0))) fun a_11 h_12 =>
  (zput h_12 a0 6 4 (.ref a_11)).bind fun h_13 =>
  (zput h_13 a0 6 5 (.int (0 : Int32))).bind fun h_14 =>
  znew h_14 (.inl (0, 8, .inl (fun _ => 0))) fun a_15 h_16 =>
  (zput h_16 a0 6 6 (.ref a_15)).bind fun h_17 =>
  znew h_17 (.inl (0, 8, .inl (fun _ => 0))) fun a_18 h_19 =>
  (zput h_19 a0 6 7 (.ref a_18)).bind fun h_20 =>
  znew h_20 (.inl (0, 8, .inl (fun _ => 0))) fun a_21 h_22 =>
  (zput h_22 a0 6 8 (.ref a_21)).bind fun h_23 =>
  (zput h_23 a0 6 9 (.int (0 : Int32))).bind fun h_24 =>
  znew h_24 (.inl (0, 5, .inl (fun _ => 0))) fun a_25 h_26 =>
  (zput h_26 a0 6 10 (.ref a_25)).bind fun h_27 =>
  (zput h_27 a0 6 11 (.int (0 : Int32))).bind fun h_28 =>
  (zput h_28 a0 6 12 (.int (0 : Int32))).bind fun h_29 =>
  (zput h_29 a0 6 13 (.int (-1 : Int32))).bind fun h_30 =>
  (zput h_30 a0 6 14 (.int (0 : Int32))).bind fun h_31 =>
  zgrid h_31 5 4 fun a_32 h_33 =>
  (zput h_33 a0 6 15 (.ref a_32)).bind fun h_34 =>
  (zput h_34 a0 6 16 (.int (0 : Int32))).bind fun h_35 =>
  zgrid h_35 10 2 fun a_36 h_37 =>
  (zput h_37 a0 6 17 (.ref a_36)).bind fun h_38 =>
  (zput h_38 a0 6 18 (.int (0 : Int32))).bind fun h_39 =>
  zgrid h_39 8 2 fun a_40 h_41 =>
  (zput h_41 a0 6 19 (.ref a_40)).bind fun h_42 =>
  some ((), h_42)
set_option maxRecDepth 4000 in
theorem kX6_init {l : Launch} {g : zG} (N : Nat) (h : AH) (a0 : Nat) : zM l g yX6_init cX6_init 1 none 1 34 150 (fun _ : Unit => none) (fX6_init N h a0) h [.ref a0] := by
  refine zM.of (lv0 := [(0, .ref a0)]) (by decide) (Nat.le_of_ble_eq_true rfl) rfl (fun X hX C => ?_)
  subst hX
  unfold fX6_init
  refine z_aload_n C 0 dX6_init_0 rfl ?_
  refine z_objInit C oX6_3 zObI zObC (Nat.le_of_ble_eq_true rfl) (Nat.le_of_ble_eq_true rfl) dX6_init_1 ?_
  refine z_aload_n C 0 dX6_init_4 rfl ?_
  refine z_iconst (v := (0 : Int32)) C dX6_init_5 rfl ?_
  refine z_putI C pX6_9 dX6_init_6 (fun h_1 => ?_)
  refine z_aload_n C 0 dX6_init_9 rfl ?_
  refine z_bipush (v := (6 : Int32)) C dX6_init_10 rfl ?_
  refine z_newaI (u' := (1, 6, 34, 150)) C 6 zArI (by decide) rfl ⟨Nat.le_of_ble_eq_true rfl, Nat.le_of_ble_eq_true rfl⟩ dX6_init_12 (fun a_2 h_3 => ?_)
  refine z_putF C rfl pX6_15 rfl rfl dX6_init_14 (fun h_4 => ?_)
  refine z_aload_n C 0 dX6_init_17 rfl ?_
  refine z_bipush (v := (6 : Int32)) C dX6_init_18 rfl ?_
  refine z_newaI (u' := (2, 12, 34, 150)) C 6 zArI (by decide) rfl ⟨Nat.le_of_ble_eq_true rfl, Nat.le_of_ble_eq_true rfl⟩ dX6_init_20 (fun a_5 h_6 => ?_)
  refine z_putF C rfl pX6_19 rfl rfl dX6_init_22 (fun h_7 => ?_)
  refine z_aload_n C 0 dX6_init_25 rfl ?_
  refine z_bipush (v := (6 : Int32)) C dX6_init_26 rfl ?_
  refine z_newaI (u' := (3, 18, 34, 150)) C 6 zArI (by decide) rfl ⟨Nat.le_of_ble_eq_true rfl, Nat.le_of_ble_eq_true rfl⟩ dX6_init_28 (fun a_8 h_9 => ?_)
  refine z_putF C rfl pX6_22 rfl rfl dX6_init_30 (fun h_10 => ?_)
  refine z_aload_n C 0 dX6_init_33 rfl ?_
  refine z_bipush (v := (24 : Int32)) C dX6_init_34 rfl ?_
  refine z_newaI (u' := (4, 42, 34, 150)) C 24 zArI (by decide) rfl ⟨Nat.le_of_ble_eq_true rfl, Nat.le_of_ble_eq_true rfl⟩ dX6_init_36 (fun a_11 h_12 => ?_)
  refine z_putF C rfl pX6_25 rfl rfl dX6_init_38 (fun h_13 => ?_)
  refine z_aload_n C 0 dX6_init_41 rfl ?_
  refine z_iconst (v := (0 : Int32)) C dX6_init_42 rfl ?_
  refine z_putI C pX6_28 dX6_init_43 (fun h_14 => ?_)
  refine z_aload_n C 0 dX6_init_46 rfl ?_
  refine z_bipush (v := (8 : Int32)) C dX6_init_47 rfl ?_
  refine z_newaI (u' := (5, 50, 34, 150)) C 8 zArI (by decide) rfl ⟨Nat.le_of_ble_eq_true rfl, Nat.le_of_ble_eq_true rfl⟩ dX6_init_49 (fun a_15 h_16 => ?_)
  refine z_putF C rfl pX6_31 rfl rfl dX6_init_51 (fun h_17 => ?_)
  refine z_aload_n C 0 dX6_init_54 rfl ?_
  refine z_bipush (v := (8 : Int32)) C dX6_init_55 rfl ?_
  refine z_newaI (u' := (6, 58, 34, 150)) C 8 zArI (by decide) rfl ⟨Nat.le_of_ble_eq_true rfl, Nat.le_of_ble_eq_true rfl⟩ dX6_init_57 (fun a_18 h_19 => ?_)
  refine z_putF C rfl pX6_34 rfl rfl dX6_init_59 (fun h_20 => ?_)
  refine z_aload_n C 0 dX6_init_62 rfl ?_
  refine z_bipush (v := (8 : Int32)) C dX6_init_63 rfl ?_
  refine z_newaI (u' := (7, 66, 34, 150)) C 8 zArI (by decide) rfl ⟨Nat.le_of_ble_eq_true rfl, Nat.le_of_ble_eq_true rfl⟩ dX6_init_65 (fun a_21 h_22 => ?_)
  refine z_putF C rfl pX6_37 rfl rfl dX6_init_67 (fun h_23 => ?_)
  refine z_aload_n C 0 dX6_init_70 rfl ?_
  refine z_iconst (v := (0 : Int32)) C dX6_init_71 rfl ?_
  refine z_putI C pX6_40 dX6_init_72 (fun h_24 => ?_)
  refine z_aload_n C 0 dX6_init_75 rfl ?_
  refine z_iconst (v := (5 : Int32)) C dX6_init_76 rfl ?_
  refine z_newaI (u' := (8, 71, 34, 150)) C 5 zArI (by decide) rfl ⟨Nat.le_of_ble_eq_true rfl, Nat.le_of_ble_eq_true rfl⟩ dX6_init_77 (fun a_25 h_26 => ?_)
  refine z_putF C rfl pX6_43 rfl rfl dX6_init_79 (fun h_27 => ?_)
  refine z_aload_n C 0 dX6_init_82 rfl ?_
  refine z_iconst (v := (0 : Int32)) C dX6_init_83 rfl ?_
  refine z_putI C pX6_46 dX6_init_84 (fun h_28 => ?_)
  refine z_aload_n C 0 dX6_init_87 rfl ?_
  refine z_iconst (v := (0 : Int32)) C dX6_init_88 rfl ?_
  refine z_putI C pX6_49 dX6_init_89 (fun h_29 => ?_)
  refine z_aload_n C 0 dX6_init_92 rfl ?_
  refine z_iconst (v := (-1 : Int32)) C dX6_init_93 rfl ?_
  refine z_putI C pX6_52 dX6_init_94 (fun h_30 => ?_)
  refine z_aload_n C 0 dX6_init_97 rfl ?_
  refine z_iconst (v := (0 : Int32)) C dX6_init_98 rfl ?_
  refine z_putI C pX6_55 dX6_init_99 (fun h_31 => ?_)
  refine z_aload_n C 0 dX6_init_102 rfl ?_
  refine z_iconst (v := (5 : Int32)) C dX6_init_103 rfl ?_
  refine z_iconst (v := (4 : Int32)) C dX6_init_104 rfl ?_
  refine z_grid (u' := (14, 96, 34, 150)) C 5 4 w105 zArI (by decide) (by decide) rfl ⟨Nat.le_of_ble_eq_true rfl, Nat.le_of_ble_eq_true rfl⟩ dX6_init_105 (fun a_32 h_33 => ?_)
  refine z_putF C rfl pX6_60 rfl rfl dX6_init_109 (fun h_34 => ?_)
  refine z_aload_n C 0 dX6_init_112 rfl ?_
  refine z_iconst (v := (0 : Int32)) C dX6_init_113 rfl ?_
  refine z_putI C pX6_63 dX6_init_114 (fun h_35 => ?_)
  refine z_aload_n C 0 dX6_init_117 rfl ?_
  refine z_bipush (v := (10 : Int32)) C dX6_init_118 rfl ?_
  refine z_iconst (v := (2 : Int32)) C dX6_init_120 rfl ?_
  refine z_grid (u' := (25, 126, 34, 150)) C 10 2 w105 zArI (by decide) (by decide) rfl ⟨Nat.le_of_ble_eq_true rfl, Nat.le_of_ble_eq_true rfl⟩ dX6_init_121 (fun a_36 h_37 => ?_)
  refine z_putF C rfl pX6_66 rfl rfl dX6_init_125 (fun h_38 => ?_)
  refine z_aload_n C 0 dX6_init_128 rfl ?_
  refine z_iconst (v := (0 : Int32)) C dX6_init_129 rfl ?_
  refine z_putI C pX6_69 dX6_init_130 (fun h_39 => ?_)
  refine z_aload_n C 0 dX6_init_133 rfl ?_
  refine z_bipush (v := (8 : Int32)) C dX6_init_134 rfl ?_
  refine z_iconst (v := (2 : Int32)) C dX6_init_136 rfl ?_
  refine z_grid (u' := (34, 150, 34, 150)) C 8 2 w105 zArI (by decide) (by decide) rfl ⟨Nat.le_of_ble_eq_true rfl, Nat.le_of_ble_eq_true rfl⟩ dX6_init_137 (fun a_40 h_41 => ?_)
  refine z_putF C rfl pX6_72 rfl rfl dX6_init_141 (fun h_42 => ?_)
  exact z_return C ⟨rfl, rfl⟩ dX6_init_144
def fX11_init (N : Nat) (h : AH) (a0 : Nat) : Option (Unit × AH) :=
  znew h (.inr (6, [.int 0, .null, .null, .null, .null, .int 0, .null, .null, .null, .int 0, .null, .int 0, .int 0, .int 0, .int 0, .null, .int 0, .null, .int 0, .null])) fun a_1 h_2 =>
  zcall (fX6_init N h_2 a_1) fun _ h_3 =>
  (zput h_3 a0 11 0 (.ref a_1)).bind fun h_4 =>
  znew h_4 (.inr (6, [.int 0, .null, .null, .null, .null, .int 0, .null, .null, .null, .int 0, .null, .int 0, .int 0, .int 0, .int 0, .null, .int 0, .null, .int 0, .null])) fun a_5 h_6 =>
  zcall (fX6_init N h_6 a_5) fun _ h_7 =>
  (zput h_7 a0 11 1 (.ref a_5)).bind fun h_8 =>
  (zputZ h_8 a0 11 2 (0 : Int32)).bind fun h_9 =>
  znew h_9 (.inl (5, 7, .inr (.inr (.inr (.inr (fun _ => none)))))) fun a_10 h_11 =>
  znew h_11 (.inr (7, [])) fun a_12 h_13 =>
  zcall (fX7_init N h_13 a_12) fun _ h_14 =>
  (zaast 5 h_14 a_10 (0 : Int32) a_12).bind fun h_15 =>
  znew h_15 (.inr (4, [])) fun a_16 h_17 =>
  zcall (fX4_init N h_17 a_16) fun _ h_18 =>
  (zaast 5 h_18 a_10 (1 : Int32) a_16).bind fun h_19 =>
  znew h_19 (.inr (3, [])) fun a_20 h_21 =>
  zcall (fX3_init N h_21 a_20) fun _ h_22 =>
  (zaast 5 h_22 a_10 (2 : Int32) a_20).bind fun h_23 =>
  znew h_23 (.inr (1, [])) fun a_24 h_25 =>
  zcall (fX1_init N h_25 a_24) fun _ h_26 =>
  (zaast 5 h_26 a_10 (3 : Int32) a_24).bind fun h_27 =>
  znew h_27 (.inr (0, [])) fun a_28 h_29 =>
  zcall (fX0_init N h_29 a_28) fun _ h_30 =>
  (zaast 5 h_30 a_10 (4 : Int32) a_28).bind fun h_31 =>
  znew h_31 (.inr (2, [])) fun a_32 h_33 =>
  zcall (fX2_init N h_33 a_32) fun _ h_34 =>
  (zaast 5 h_34 a_10 (5 : Int32) a_32).bind fun h_35 =>
  znew h_35 (.inr (9, [])) fun a_36 h_37 =>
  zcall (fX9_init N h_37 a_36) fun _ h_38 =>
  (zaast 5 h_38 a_10 (6 : Int32) a_36).bind fun h_39 =>
  (zput h_39 a0 11 3 (.ref a_10)).bind fun h_40 =>
  znew h_40 (.inr (5, [.int 0, .null, .int 0, .null, .int 0, .null, .int 0, .int 0, .int 0])) fun a_41 h_42 =>
  zcall (fX5_init N h_42 a_41) fun _ h_43 =>
  (zput h_43 a0 11 4 (.ref a_41)).bind fun h_44 =>
  znew h_44 (.inl (4, 6, .inr (.inr (.inr (.inr (fun _ => none)))))) fun a_45 h_46 =>
  (zput h_46 a0 11 5 (.ref a_45)).bind fun h_47 =>
  (zput h_47 a0 11 6 (.int (0 : Int32))).bind fun h_48 =>
  znew h_48 (.inl (1, 100, .inl (fun _ => 0))) fun a_49 h_50 =>
  (zput h_50 a0 11 7 (.ref a_49)).bind fun h_51 =>
  (zput h_51 a0 11 8 (.int (0 : Int32))).bind fun h_52 =>
  znew h_52 (.inr (10, [.int 0, .int 0, .int 0, .null])) fun a_53 h_54 =>
  zcall (fX10_init N h_54 a_53) fun _ h_55 =>
  (zput h_55 a0 11 9 (.ref a_53)).bind fun h_56 =>
  znew h_56 (.inl (6, 6, .inr (.inr (.inr (.inr (fun _ => none)))))) fun a_57 h_58 =>
  (zput h_58 a0 11 10 (.ref a_57)).bind fun h_59 =>
  znew h_59 (.inl (0, 8, .inl (fun _ => 0))) fun a_60 h_61 =>
  (zput h_61 a0 11 11 (.ref a_60)).bind fun h_62 =>
  znew h_62 (.inl (0, 6, .inl (fun _ => 0))) fun a_63 h_64 =>
  (zput h_64 a0 11 12 (.ref a_63)).bind fun h_65 =>
  (zgR h_65 a0 11 5).bind fun a_66 =>
  znew h_65 (.inr (5, [.int 0, .null, .int 0, .null, .int 0, .null, .int 0, .int 0, .int 0])) fun a_67 h_68 =>
  zcall (fX5_init N h_68 a_67) fun _ h_69 =>
  (zaast 4 h_69 a_66 (0 : Int32) a_67).bind fun h_70 =>
  (zgR h_70 a0 11 5).bind fun a_71 =>
  znew h_70 (.inr (5, [.int 0, .null, .int 0, .null, .int 0, .null, .int 0, .int 0, .int 0])) fun a_72 h_73 =>
  zcall (fX5_init N h_73 a_72) fun _ h_74 =>
  (zaast 4 h_74 a_71 (1 : Int32) a_72).bind fun h_75 =>
  (zgR h_75 a0 11 5).bind fun a_76 =>
  znew h_75 (.inr (5, [.int 0, .null, .int 0, .null, .int 0, .null, .int 0, .int 0, .int 0])) fun a_77 h_78 =>
  zcall (fX5_init N h_78 a_77) fun _ h_79 =>
  (zaast 4 h_79 a_76 (2 : Int32) a_77).bind fun h_80 =>
  (zgR h_80 a0 11 5).bind fun a_81 =>
  znew h_80 (.inr (5, [.int 0, .null, .int 0, .null, .int 0, .null, .int 0, .int 0, .int 0])) fun a_82 h_83 =>
  zcall (fX5_init N h_83 a_82) fun _ h_84 =>
  (zaast 4 h_84 a_81 (3 : Int32) a_82).bind fun h_85 =>
  (zgR h_85 a0 11 5).bind fun a_86 =>
  znew h_85 (.inr (5, [.int 0, .null, .int 0, .null, .int 0, .null, .int 0, .int 0, .int 0])) fun a_87 h_88 =>
  zcall (fX5_init N h_88 a_87) fun _ h_89 =>
  (zaast 4 h_89 a_86 (4 : Int32) a_87).bind fun h_90 =>
  (zgR h_90 a0 11 5).bind fun a_91 =>
  znew h_90 (.inr (5, [.int 0, .null, .int 0, .null, .int 0, .null, .int 0, .int 0, .int 0])) fun a_92 h_93 =>
  zcall (fX5_init N h_93 a_92) fun _ h_94 =>
  (zaast 4 h_94 a_91 (5 : Int32) a_92).bind fun h_95 =>
  (zgR h_95 a0 11 10).bind fun a_96 =>
  znew h_95 (.inr (8, [.int 0, .int 0, .null])) fun a_97 h_98 =>
  zcall (fX8_init N h_98 a_97) fun _ h_99 =>
  (zaast 6 h_99 a_96 (0 : Int32) a_97).bind fun h_100 =>
  (zgR h_100 a0 11 10).bind fun a_101 =>
  znew h_100 (.inr (8, [.int 0, .int 0, .null])) fun a_102 h_103 =>
  zcall (fX8_init N h_103 a_102) fun _ h_104 =>
  (zaast 6 h_104 a_101 (1 : Int32) a_102).bind fun h_105 =>
  (zgR h_105 a0 11 10).bind fun a_106 =>
  znew h_105 (.inr (8, [.int 0, .int 0, .null])) fun a_107 h_108 =>
  zcall (fX8_init N h_108 a_107) fun _ h_109 =>
  (zaast 6 h_109 a_106 (2 : Int32) a_107).bind fun h_110 =>
  (zgR h_110 a0 11 10).bind fun a_111 =>
  znew h_110 (.inr (8, [.int 0, .int 0, .null])) fun a_112 h_113 =>
  zcall (fX8_init N h_113 a_112) fun _ h_114 =>
  (zaast 6 h_114 a_111 (3 : Int32) a_112).bind fun h_115 =>
  (zgR h_115 a0 11 10).bind fun a_116 =>
  znew h_115 (.inr (8, [.int 0, .int 0, .null])) fun a_117 h_118 =>
  zcall (fX8_init N h_118 a_117) fun _ h_119 =>
  (zaast 6 h_119 a_116 (4 : Int32) a_117).bind fun h_120 =>
  (zgR h_120 a0 11 10).bind fun a_121 =>
  znew h_120 (.inr (8, [.int 0, .int 0, .null])) fun a_122 h_123 =>
  zcall (fX8_init N h_123 a_122) fun _ h_124 =>
  (zaast 6 h_124 a_121 (5 : Int32) a_122).bind fun h_125 =>
  some ((), h_125)
set_option maxRecDepth 4000 in
theorem kX11_init {l : Launch} {g : zG} (N : Nat) (h : AH) (a0 : Nat) : zM l g yX11_init cX11_init 2 none 4 125 1715 (fun _ : Unit => none) (fX11_init N h a0) h [.ref a0] := by
  refine zM.of (lv0 := [(0, .ref a0)]) (by decide) (Nat.le_of_ble_eq_true rfl) rfl (fun X hX C => ?_)
  subst hX
  unfold fX11_init
  refine z_aload_n C 0 dX11_init_0 rfl ?_
  refine z_objInit C oX11_3 zObI zObC (Nat.le_of_ble_eq_true rfl) (Nat.le_of_ble_eq_true rfl) dX11_init_1 ?_
  refine z_aload_n C 0 dX11_init_4 rfl ?_
  refine z_new (u' := (1, 20, 125, 1715)) C nX11_9 rfl ⟨Nat.le_of_ble_eq_true rfl, Nat.le_of_ble_eq_true rfl⟩ dX11_init_5 (fun a_1 h_2 => ?_)
  refine z_dup C dX11_init_8 rfl ?_
  refine z_callc (u' := (35, 170, 125, 1715)) (z_runIN (rest := [.ref a_1, .ref a0]) C mX11_11 (kX6_init N h_2 a_1) (Nat.le_of_ble_eq_true rfl) ⟨Nat.le_of_ble_eq_true rfl, Nat.le_of_ble_eq_true rfl⟩ dX11_init_9 (Nat.le_of_ble_eq_true rfl)) rfl rfl (fun _ h_3 => ?_)
  refine z_putF C rfl pX11_12 rfl rfl dX11_init_12 (fun h_4 => ?_)
  refine z_aload_n C 0 dX11_init_15 rfl ?_
  refine z_new (u' := (36, 190, 125, 1715)) C nX11_9 rfl ⟨Nat.le_of_ble_eq_true rfl, Nat.le_of_ble_eq_true rfl⟩ dX11_init_16 (fun a_5 h_6 => ?_)
  refine z_dup C dX11_init_19 rfl ?_
  refine z_callc (u' := (70, 340, 125, 1715)) (z_runIN (rest := [.ref a_5, .ref a0]) C mX11_11 (kX6_init N h_6 a_5) (Nat.le_of_ble_eq_true rfl) ⟨Nat.le_of_ble_eq_true rfl, Nat.le_of_ble_eq_true rfl⟩ dX11_init_20 (Nat.le_of_ble_eq_true rfl)) rfl rfl (fun _ h_7 => ?_)
  refine z_putF C rfl pX11_18 rfl rfl dX11_init_23 (fun h_8 => ?_)
  refine z_aload_n C 0 dX11_init_26 rfl ?_
  refine z_iconst (v := (0 : Int32)) C dX11_init_27 rfl ?_
  refine z_putZ C pX11_21 dX11_init_28 (fun h_9 => ?_)
  refine z_aload_n C 0 dX11_init_31 rfl ?_
  refine z_bipush (v := (7 : Int32)) C dX11_init_32 rfl ?_
  refine z_anew (u' := (71, 347, 125, 1715)) C 5 7 (by decide) w185 (by decide) rfl ⟨Nat.le_of_ble_eq_true rfl, Nat.le_of_ble_eq_true rfl⟩ dX11_init_34 (fun a_10 h_11 => ?_)
  refine z_dup C dX11_init_37 rfl ?_
  refine z_iconst (v := (0 : Int32)) C dX11_init_38 rfl ?_
  refine z_new (u' := (72, 347, 125, 1715)) C nX11_25 rfl ⟨Nat.le_of_ble_eq_true rfl, Nat.le_of_ble_eq_true rfl⟩ dX11_init_39 (fun a_12 h_13 => ?_)
  refine z_dup C dX11_init_42 rfl ?_
  refine z_callc (u' := (72, 347, 125, 1715)) (z_runIN (rest := [.ref a_12, .int (0 : Int32), .ref a_10, .ref a_10, .ref a0]) C mX11_27 (kX7_init N h_13 a_12) (Nat.le_of_ble_eq_true rfl) ⟨Nat.le_of_ble_eq_true rfl, Nat.le_of_ble_eq_true rfl⟩ dX11_init_43 (Nat.le_of_ble_eq_true rfl)) rfl rfl (fun _ h_14 => ?_)
  refine z_aastore C dX11_init_46 (fun h_15 => ?_)
  refine z_dup C dX11_init_47 rfl ?_
  refine z_iconst (v := (1 : Int32)) C dX11_init_48 rfl ?_
  refine z_new (u' := (73, 347, 125, 1715)) C nX11_28 rfl ⟨Nat.le_of_ble_eq_true rfl, Nat.le_of_ble_eq_true rfl⟩ dX11_init_49 (fun a_16 h_17 => ?_)
  refine z_dup C dX11_init_52 rfl ?_
  refine z_callc (u' := (73, 347, 125, 1715)) (z_runIN (rest := [.ref a_16, .int (1 : Int32), .ref a_10, .ref a_10, .ref a0]) C mX11_30 (kX4_init N h_17 a_16) (Nat.le_of_ble_eq_true rfl) ⟨Nat.le_of_ble_eq_true rfl, Nat.le_of_ble_eq_true rfl⟩ dX11_init_53 (Nat.le_of_ble_eq_true rfl)) rfl rfl (fun _ h_18 => ?_)
  refine z_aastore C dX11_init_56 (fun h_19 => ?_)
  refine z_dup C dX11_init_57 rfl ?_
  refine z_iconst (v := (2 : Int32)) C dX11_init_58 rfl ?_
  refine z_new (u' := (74, 347, 125, 1715)) C nX11_31 rfl ⟨Nat.le_of_ble_eq_true rfl, Nat.le_of_ble_eq_true rfl⟩ dX11_init_59 (fun a_20 h_21 => ?_)
  refine z_dup C dX11_init_62 rfl ?_
  refine z_callc (u' := (74, 347, 125, 1715)) (z_runIN (rest := [.ref a_20, .int (2 : Int32), .ref a_10, .ref a_10, .ref a0]) C mX11_33 (kX3_init N h_21 a_20) (Nat.le_of_ble_eq_true rfl) ⟨Nat.le_of_ble_eq_true rfl, Nat.le_of_ble_eq_true rfl⟩ dX11_init_63 (Nat.le_of_ble_eq_true rfl)) rfl rfl (fun _ h_22 => ?_)
  refine z_aastore C dX11_init_66 (fun h_23 => ?_)
  refine z_dup C dX11_init_67 rfl ?_
  refine z_iconst (v := (3 : Int32)) C dX11_init_68 rfl ?_
  refine z_new (u' := (75, 347, 125, 1715)) C nX11_34 rfl ⟨Nat.le_of_ble_eq_true rfl, Nat.le_of_ble_eq_true rfl⟩ dX11_init_69 (fun a_24 h_25 => ?_)
  refine z_dup C dX11_init_72 rfl ?_
  refine z_callc (u' := (75, 347, 125, 1715)) (z_runIN (rest := [.ref a_24, .int (3 : Int32), .ref a_10, .ref a_10, .ref a0]) C mX11_36 (kX1_init N h_25 a_24) (Nat.le_of_ble_eq_true rfl) ⟨Nat.le_of_ble_eq_true rfl, Nat.le_of_ble_eq_true rfl⟩ dX11_init_73 (Nat.le_of_ble_eq_true rfl)) rfl rfl (fun _ h_26 => ?_)
  refine z_aastore C dX11_init_76 (fun h_27 => ?_)
  refine z_dup C dX11_init_77 rfl ?_
  refine z_iconst (v := (4 : Int32)) C dX11_init_78 rfl ?_
  refine z_new (u' := (76, 347, 125, 1715)) C nX11_37 rfl ⟨Nat.le_of_ble_eq_true rfl, Nat.le_of_ble_eq_true rfl⟩ dX11_init_79 (fun a_28 h_29 => ?_)
  refine z_dup C dX11_init_82 rfl ?_
  refine z_callc (u' := (76, 347, 125, 1715)) (z_runIN (rest := [.ref a_28, .int (4 : Int32), .ref a_10, .ref a_10, .ref a0]) C mX11_39 (kX0_init N h_29 a_28) (Nat.le_of_ble_eq_true rfl) ⟨Nat.le_of_ble_eq_true rfl, Nat.le_of_ble_eq_true rfl⟩ dX11_init_83 (Nat.le_of_ble_eq_true rfl)) rfl rfl (fun _ h_30 => ?_)
  refine z_aastore C dX11_init_86 (fun h_31 => ?_)
  refine z_dup C dX11_init_87 rfl ?_
  refine z_iconst (v := (5 : Int32)) C dX11_init_88 rfl ?_
  refine z_new (u' := (77, 347, 125, 1715)) C nX11_40 rfl ⟨Nat.le_of_ble_eq_true rfl, Nat.le_of_ble_eq_true rfl⟩ dX11_init_89 (fun a_32 h_33 => ?_)
  refine z_dup C dX11_init_92 rfl ?_
  refine z_callc (u' := (77, 347, 125, 1715)) (z_runIN (rest := [.ref a_32, .int (5 : Int32), .ref a_10, .ref a_10, .ref a0]) C mX11_42 (kX2_init N h_33 a_32) (Nat.le_of_ble_eq_true rfl) ⟨Nat.le_of_ble_eq_true rfl, Nat.le_of_ble_eq_true rfl⟩ dX11_init_93 (Nat.le_of_ble_eq_true rfl)) rfl rfl (fun _ h_34 => ?_)
  refine z_aastore C dX11_init_96 (fun h_35 => ?_)
  refine z_dup C dX11_init_97 rfl ?_
  refine z_bipush (v := (6 : Int32)) C dX11_init_98 rfl ?_
  refine z_new (u' := (78, 347, 125, 1715)) C nX11_43 rfl ⟨Nat.le_of_ble_eq_true rfl, Nat.le_of_ble_eq_true rfl⟩ dX11_init_100 (fun a_36 h_37 => ?_)
  refine z_dup C dX11_init_103 rfl ?_
  refine z_callc (u' := (78, 347, 125, 1715)) (z_runIN (rest := [.ref a_36, .int (6 : Int32), .ref a_10, .ref a_10, .ref a0]) C mX11_45 (kX9_init N h_37 a_36) (Nat.le_of_ble_eq_true rfl) ⟨Nat.le_of_ble_eq_true rfl, Nat.le_of_ble_eq_true rfl⟩ dX11_init_104 (Nat.le_of_ble_eq_true rfl)) rfl rfl (fun _ h_38 => ?_)
  refine z_aastore C dX11_init_107 (fun h_39 => ?_)
  refine z_putF C rfl pX11_46 rfl rfl dX11_init_108 (fun h_40 => ?_)
  refine z_aload_n C 0 dX11_init_111 rfl ?_
  refine z_new (u' := (79, 356, 125, 1715)) C nX11_50 rfl ⟨Nat.le_of_ble_eq_true rfl, Nat.le_of_ble_eq_true rfl⟩ dX11_init_112 (fun a_41 h_42 => ?_)
  refine z_dup C dX11_init_115 rfl ?_
  refine z_callc (u' := (82, 467, 125, 1715)) (z_runIN (rest := [.ref a_41, .ref a0]) C mX11_52 (kX5_init N h_42 a_41) (Nat.le_of_ble_eq_true rfl) ⟨Nat.le_of_ble_eq_true rfl, Nat.le_of_ble_eq_true rfl⟩ dX11_init_116 (Nat.le_of_ble_eq_true rfl)) rfl rfl (fun _ h_43 => ?_)
  refine z_putF C rfl pX11_53 rfl rfl dX11_init_119 (fun h_44 => ?_)
  refine z_aload_n C 0 dX11_init_122 rfl ?_
  refine z_bipush (v := (6 : Int32)) C dX11_init_123 rfl ?_
  refine z_anew (u' := (83, 473, 125, 1715)) C 4 6 (by decide) w235 (by decide) rfl ⟨Nat.le_of_ble_eq_true rfl, Nat.le_of_ble_eq_true rfl⟩ dX11_init_125 (fun a_45 h_46 => ?_)
  refine z_putF C rfl pX11_57 rfl rfl dX11_init_128 (fun h_47 => ?_)
  refine z_aload_n C 0 dX11_init_131 rfl ?_
  refine z_iconst (v := (0 : Int32)) C dX11_init_132 rfl ?_
  refine z_putI C pX11_61 dX11_init_133 (fun h_48 => ?_)
  refine z_aload_n C 0 dX11_init_136 rfl ?_
  refine z_bipush (v := (100 : Int32)) C dX11_init_137 rfl ?_
  refine z_newaB (u' := (84, 573, 125, 1715)) C 100 zArB (by decide) rfl ⟨Nat.le_of_ble_eq_true rfl, Nat.le_of_ble_eq_true rfl⟩ dX11_init_139 (fun a_49 h_50 => ?_)
  refine z_putF C rfl pX11_65 rfl rfl dX11_init_141 (fun h_51 => ?_)
  refine z_aload_n C 0 dX11_init_144 rfl ?_
  refine z_iconst (v := (0 : Int32)) C dX11_init_145 rfl ?_
  refine z_putI C pX11_69 dX11_init_146 (fun h_52 => ?_)
  refine z_aload_n C 0 dX11_init_149 rfl ?_
  refine z_new (u' := (85, 577, 125, 1715)) C nX11_72 rfl ⟨Nat.le_of_ble_eq_true rfl, Nat.le_of_ble_eq_true rfl⟩ dX11_init_150 (fun a_53 h_54 => ?_)
  refine z_dup C dX11_init_153 rfl ?_
  refine z_callc (u' := (86, 597, 125, 1715)) (z_runIN (rest := [.ref a_53, .ref a0]) C mX11_74 (kX10_init N h_54 a_53) (Nat.le_of_ble_eq_true rfl) ⟨Nat.le_of_ble_eq_true rfl, Nat.le_of_ble_eq_true rfl⟩ dX11_init_154 (Nat.le_of_ble_eq_true rfl)) rfl rfl (fun _ h_55 => ?_)
  refine z_putF C rfl pX11_75 rfl rfl dX11_init_157 (fun h_56 => ?_)
  refine z_aload_n C 0 dX11_init_160 rfl ?_
  refine z_bipush (v := (6 : Int32)) C dX11_init_161 rfl ?_
  refine z_anew (u' := (87, 603, 125, 1715)) C 6 6 (by decide) w299 (by decide) rfl ⟨Nat.le_of_ble_eq_true rfl, Nat.le_of_ble_eq_true rfl⟩ dX11_init_163 (fun a_57 h_58 => ?_)
  refine z_putF C rfl pX11_81 rfl rfl dX11_init_166 (fun h_59 => ?_)
  refine z_aload_n C 0 dX11_init_169 rfl ?_
  refine z_bipush (v := (8 : Int32)) C dX11_init_170 rfl ?_
  refine z_newaI (u' := (88, 611, 125, 1715)) C 8 zArI (by decide) rfl ⟨Nat.le_of_ble_eq_true rfl, Nat.le_of_ble_eq_true rfl⟩ dX11_init_172 (fun a_60 h_61 => ?_)
  refine z_putF C rfl pX11_85 rfl rfl dX11_init_174 (fun h_62 => ?_)
  refine z_aload_n C 0 dX11_init_177 rfl ?_
  refine z_bipush (v := (6 : Int32)) C dX11_init_178 rfl ?_
  refine z_newaI (u' := (89, 617, 125, 1715)) C 6 zArI (by decide) rfl ⟨Nat.le_of_ble_eq_true rfl, Nat.le_of_ble_eq_true rfl⟩ dX11_init_180 (fun a_63 h_64 => ?_)
  refine z_putF C rfl pX11_89 rfl rfl dX11_init_182 (fun h_65 => ?_)
  refine z_iconst (v := (0 : Int32)) C dX11_init_185 rfl ?_
  refine z_istore_n C dX11_init_186 [(1, .int (0 : Int32)), (0, .ref a0)] (by decide) rfl ?_
  refine z_iload_n C 0 dX11_init_187 rfl ?_
  refine z_bipush (v := (6 : Int32)) C dX11_init_188 rfl ?_
  refine z_icmpge_n C dX11_init_190 212 rfl (by decide) ?_
  refine z_aload_n C 1 dX11_init_193 rfl ?_
  refine z_getR C qX11_57 dX11_init_194 (fun a_66 => ?_)
  refine z_iload_n C 0 dX11_init_197 rfl ?_
  refine z_new (u' := (90, 626, 125, 1715)) C nX11_50 rfl ⟨Nat.le_of_ble_eq_true rfl, Nat.le_of_ble_eq_true rfl⟩ dX11_init_198 (fun a_67 h_68 => ?_)
  refine z_dup C dX11_init_201 rfl ?_
  refine z_callc (u' := (93, 737, 125, 1715)) (z_runIN (rest := [.ref a_67, .int (0 : Int32), .ref a_66]) C mX11_52 (kX5_init N h_68 a_67) (Nat.le_of_ble_eq_true rfl) ⟨Nat.le_of_ble_eq_true rfl, Nat.le_of_ble_eq_true rfl⟩ dX11_init_202 (Nat.le_of_ble_eq_true rfl)) rfl rfl (fun _ h_69 => ?_)
  refine z_aastore C dX11_init_205 (fun h_70 => ?_)
  refine z_iinc (v := (1 : Int32)) C 0 dX11_init_206 [(1, .int (1 : Int32)), (0, .ref a0)] rfl rfl (by decide) rfl ?_
  refine z_goto C 187 dX11_init_209 rfl ?_
  refine z_iload_n C 0 dX11_init_187 rfl ?_
  refine z_bipush (v := (6 : Int32)) C dX11_init_188 rfl ?_
  refine z_icmpge_n C dX11_init_190 212 rfl (by decide) ?_
  refine z_aload_n C 1 dX11_init_193 rfl ?_
  refine z_getR C qX11_57 dX11_init_194 (fun a_71 => ?_)
  refine z_iload_n C 0 dX11_init_197 rfl ?_
  refine z_new (u' := (94, 746, 125, 1715)) C nX11_50 rfl ⟨Nat.le_of_ble_eq_true rfl, Nat.le_of_ble_eq_true rfl⟩ dX11_init_198 (fun a_72 h_73 => ?_)
  refine z_dup C dX11_init_201 rfl ?_
  refine z_callc (u' := (97, 857, 125, 1715)) (z_runIN (rest := [.ref a_72, .int (1 : Int32), .ref a_71]) C mX11_52 (kX5_init N h_73 a_72) (Nat.le_of_ble_eq_true rfl) ⟨Nat.le_of_ble_eq_true rfl, Nat.le_of_ble_eq_true rfl⟩ dX11_init_202 (Nat.le_of_ble_eq_true rfl)) rfl rfl (fun _ h_74 => ?_)
  refine z_aastore C dX11_init_205 (fun h_75 => ?_)
  refine z_iinc (v := (2 : Int32)) C 0 dX11_init_206 [(1, .int (2 : Int32)), (0, .ref a0)] rfl rfl (by decide) rfl ?_
  refine z_goto C 187 dX11_init_209 rfl ?_
  refine z_iload_n C 0 dX11_init_187 rfl ?_
  refine z_bipush (v := (6 : Int32)) C dX11_init_188 rfl ?_
  refine z_icmpge_n C dX11_init_190 212 rfl (by decide) ?_
  refine z_aload_n C 1 dX11_init_193 rfl ?_
  refine z_getR C qX11_57 dX11_init_194 (fun a_76 => ?_)
  refine z_iload_n C 0 dX11_init_197 rfl ?_
  refine z_new (u' := (98, 866, 125, 1715)) C nX11_50 rfl ⟨Nat.le_of_ble_eq_true rfl, Nat.le_of_ble_eq_true rfl⟩ dX11_init_198 (fun a_77 h_78 => ?_)
  refine z_dup C dX11_init_201 rfl ?_
  refine z_callc (u' := (101, 977, 125, 1715)) (z_runIN (rest := [.ref a_77, .int (2 : Int32), .ref a_76]) C mX11_52 (kX5_init N h_78 a_77) (Nat.le_of_ble_eq_true rfl) ⟨Nat.le_of_ble_eq_true rfl, Nat.le_of_ble_eq_true rfl⟩ dX11_init_202 (Nat.le_of_ble_eq_true rfl)) rfl rfl (fun _ h_79 => ?_)
  refine z_aastore C dX11_init_205 (fun h_80 => ?_)
  refine z_iinc (v := (3 : Int32)) C 0 dX11_init_206 [(1, .int (3 : Int32)), (0, .ref a0)] rfl rfl (by decide) rfl ?_
  refine z_goto C 187 dX11_init_209 rfl ?_
  refine z_iload_n C 0 dX11_init_187 rfl ?_
  refine z_bipush (v := (6 : Int32)) C dX11_init_188 rfl ?_
  refine z_icmpge_n C dX11_init_190 212 rfl (by decide) ?_
  refine z_aload_n C 1 dX11_init_193 rfl ?_
  refine z_getR C qX11_57 dX11_init_194 (fun a_81 => ?_)
  refine z_iload_n C 0 dX11_init_197 rfl ?_
  refine z_new (u' := (102, 986, 125, 1715)) C nX11_50 rfl ⟨Nat.le_of_ble_eq_true rfl, Nat.le_of_ble_eq_true rfl⟩ dX11_init_198 (fun a_82 h_83 => ?_)
  refine z_dup C dX11_init_201 rfl ?_
  refine z_callc (u' := (105, 1097, 125, 1715)) (z_runIN (rest := [.ref a_82, .int (3 : Int32), .ref a_81]) C mX11_52 (kX5_init N h_83 a_82) (Nat.le_of_ble_eq_true rfl) ⟨Nat.le_of_ble_eq_true rfl, Nat.le_of_ble_eq_true rfl⟩ dX11_init_202 (Nat.le_of_ble_eq_true rfl)) rfl rfl (fun _ h_84 => ?_)
  refine z_aastore C dX11_init_205 (fun h_85 => ?_)
  refine z_iinc (v := (4 : Int32)) C 0 dX11_init_206 [(1, .int (4 : Int32)), (0, .ref a0)] rfl rfl (by decide) rfl ?_
  refine z_goto C 187 dX11_init_209 rfl ?_
  refine z_iload_n C 0 dX11_init_187 rfl ?_
  refine z_bipush (v := (6 : Int32)) C dX11_init_188 rfl ?_
  refine z_icmpge_n C dX11_init_190 212 rfl (by decide) ?_
  refine z_aload_n C 1 dX11_init_193 rfl ?_
  refine z_getR C qX11_57 dX11_init_194 (fun a_86 => ?_)
  refine z_iload_n C 0 dX11_init_197 rfl ?_
  refine z_new (u' := (106, 1106, 125, 1715)) C nX11_50 rfl ⟨Nat.le_of_ble_eq_true rfl, Nat.le_of_ble_eq_true rfl⟩ dX11_init_198 (fun a_87 h_88 => ?_)
  refine z_dup C dX11_init_201 rfl ?_
  refine z_callc (u' := (109, 1217, 125, 1715)) (z_runIN (rest := [.ref a_87, .int (4 : Int32), .ref a_86]) C mX11_52 (kX5_init N h_88 a_87) (Nat.le_of_ble_eq_true rfl) ⟨Nat.le_of_ble_eq_true rfl, Nat.le_of_ble_eq_true rfl⟩ dX11_init_202 (Nat.le_of_ble_eq_true rfl)) rfl rfl (fun _ h_89 => ?_)
  refine z_aastore C dX11_init_205 (fun h_90 => ?_)
  refine z_iinc (v := (5 : Int32)) C 0 dX11_init_206 [(1, .int (5 : Int32)), (0, .ref a0)] rfl rfl (by decide) rfl ?_
  refine z_goto C 187 dX11_init_209 rfl ?_
  refine z_iload_n C 0 dX11_init_187 rfl ?_
  refine z_bipush (v := (6 : Int32)) C dX11_init_188 rfl ?_
  refine z_icmpge_n C dX11_init_190 212 rfl (by decide) ?_
  refine z_aload_n C 1 dX11_init_193 rfl ?_
  refine z_getR C qX11_57 dX11_init_194 (fun a_91 => ?_)
  refine z_iload_n C 0 dX11_init_197 rfl ?_
  refine z_new (u' := (110, 1226, 125, 1715)) C nX11_50 rfl ⟨Nat.le_of_ble_eq_true rfl, Nat.le_of_ble_eq_true rfl⟩ dX11_init_198 (fun a_92 h_93 => ?_)
  refine z_dup C dX11_init_201 rfl ?_
  refine z_callc (u' := (113, 1337, 125, 1715)) (z_runIN (rest := [.ref a_92, .int (5 : Int32), .ref a_91]) C mX11_52 (kX5_init N h_93 a_92) (Nat.le_of_ble_eq_true rfl) ⟨Nat.le_of_ble_eq_true rfl, Nat.le_of_ble_eq_true rfl⟩ dX11_init_202 (Nat.le_of_ble_eq_true rfl)) rfl rfl (fun _ h_94 => ?_)
  refine z_aastore C dX11_init_205 (fun h_95 => ?_)
  refine z_iinc (v := (6 : Int32)) C 0 dX11_init_206 [(1, .int (6 : Int32)), (0, .ref a0)] rfl rfl (by decide) rfl ?_
  refine z_goto C 187 dX11_init_209 rfl ?_
  refine z_iload_n C 0 dX11_init_187 rfl ?_
  refine z_bipush (v := (6 : Int32)) C dX11_init_188 rfl ?_
  refine z_icmpge_y C dX11_init_190 212 rfl (by decide) ?_
  refine z_iconst (v := (0 : Int32)) C dX11_init_212 rfl ?_
  refine z_istore_n C dX11_init_213 [(1, .int (0 : Int32)), (0, .ref a0)] (by decide) rfl ?_
  refine z_iload_n C 0 dX11_init_214 rfl ?_
  refine z_bipush (v := (6 : Int32)) C dX11_init_215 rfl ?_
  refine z_icmpge_n C dX11_init_217 239 rfl (by decide) ?_
  refine z_aload_n C 1 dX11_init_220 rfl ?_
  refine z_getR C qX11_81 dX11_init_221 (fun a_96 => ?_)
  refine z_iload_n C 0 dX11_init_224 rfl ?_
  refine z_new (u' := (114, 1340, 125, 1715)) C nX11_79 rfl ⟨Nat.le_of_ble_eq_true rfl, Nat.le_of_ble_eq_true rfl⟩ dX11_init_225 (fun a_97 h_98 => ?_)
  refine z_dup C dX11_init_228 rfl ?_
  refine z_callc (u' := (115, 1400, 125, 1715)) (z_runIN (rest := [.ref a_97, .int (0 : Int32), .ref a_96]) C mX11_92 (kX8_init N h_98 a_97) (Nat.le_of_ble_eq_true rfl) ⟨Nat.le_of_ble_eq_true rfl, Nat.le_of_ble_eq_true rfl⟩ dX11_init_229 (Nat.le_of_ble_eq_true rfl)) rfl rfl (fun _ h_99 => ?_)
  refine z_aastore C dX11_init_232 (fun h_100 => ?_)
  refine z_iinc (v := (1 : Int32)) C 0 dX11_init_233 [(1, .int (1 : Int32)), (0, .ref a0)] rfl rfl (by decide) rfl ?_
  refine z_goto C 214 dX11_init_236 rfl ?_
  refine z_iload_n C 0 dX11_init_214 rfl ?_
  refine z_bipush (v := (6 : Int32)) C dX11_init_215 rfl ?_
  refine z_icmpge_n C dX11_init_217 239 rfl (by decide) ?_
  refine z_aload_n C 1 dX11_init_220 rfl ?_
  refine z_getR C qX11_81 dX11_init_221 (fun a_101 => ?_)
  refine z_iload_n C 0 dX11_init_224 rfl ?_
  refine z_new (u' := (116, 1403, 125, 1715)) C nX11_79 rfl ⟨Nat.le_of_ble_eq_true rfl, Nat.le_of_ble_eq_true rfl⟩ dX11_init_225 (fun a_102 h_103 => ?_)
  refine z_dup C dX11_init_228 rfl ?_
  refine z_callc (u' := (117, 1463, 125, 1715)) (z_runIN (rest := [.ref a_102, .int (1 : Int32), .ref a_101]) C mX11_92 (kX8_init N h_103 a_102) (Nat.le_of_ble_eq_true rfl) ⟨Nat.le_of_ble_eq_true rfl, Nat.le_of_ble_eq_true rfl⟩ dX11_init_229 (Nat.le_of_ble_eq_true rfl)) rfl rfl (fun _ h_104 => ?_)
  refine z_aastore C dX11_init_232 (fun h_105 => ?_)
  refine z_iinc (v := (2 : Int32)) C 0 dX11_init_233 [(1, .int (2 : Int32)), (0, .ref a0)] rfl rfl (by decide) rfl ?_
  refine z_goto C 214 dX11_init_236 rfl ?_
  refine z_iload_n C 0 dX11_init_214 rfl ?_
  refine z_bipush (v := (6 : Int32)) C dX11_init_215 rfl ?_
  refine z_icmpge_n C dX11_init_217 239 rfl (by decide) ?_
  refine z_aload_n C 1 dX11_init_220 rfl ?_
  refine z_getR C qX11_81 dX11_init_221 (fun a_106 => ?_)
  refine z_iload_n C 0 dX11_init_224 rfl ?_
  refine z_new (u' := (118, 1466, 125, 1715)) C nX11_79 rfl ⟨Nat.le_of_ble_eq_true rfl, Nat.le_of_ble_eq_true rfl⟩ dX11_init_225 (fun a_107 h_108 => ?_)
  refine z_dup C dX11_init_228 rfl ?_
  refine z_callc (u' := (119, 1526, 125, 1715)) (z_runIN (rest := [.ref a_107, .int (2 : Int32), .ref a_106]) C mX11_92 (kX8_init N h_108 a_107) (Nat.le_of_ble_eq_true rfl) ⟨Nat.le_of_ble_eq_true rfl, Nat.le_of_ble_eq_true rfl⟩ dX11_init_229 (Nat.le_of_ble_eq_true rfl)) rfl rfl (fun _ h_109 => ?_)
  refine z_aastore C dX11_init_232 (fun h_110 => ?_)
  refine z_iinc (v := (3 : Int32)) C 0 dX11_init_233 [(1, .int (3 : Int32)), (0, .ref a0)] rfl rfl (by decide) rfl ?_
  refine z_goto C 214 dX11_init_236 rfl ?_
  refine z_iload_n C 0 dX11_init_214 rfl ?_
  refine z_bipush (v := (6 : Int32)) C dX11_init_215 rfl ?_
  refine z_icmpge_n C dX11_init_217 239 rfl (by decide) ?_
  refine z_aload_n C 1 dX11_init_220 rfl ?_
  refine z_getR C qX11_81 dX11_init_221 (fun a_111 => ?_)
  refine z_iload_n C 0 dX11_init_224 rfl ?_
  refine z_new (u' := (120, 1529, 125, 1715)) C nX11_79 rfl ⟨Nat.le_of_ble_eq_true rfl, Nat.le_of_ble_eq_true rfl⟩ dX11_init_225 (fun a_112 h_113 => ?_)
  refine z_dup C dX11_init_228 rfl ?_
  refine z_callc (u' := (121, 1589, 125, 1715)) (z_runIN (rest := [.ref a_112, .int (3 : Int32), .ref a_111]) C mX11_92 (kX8_init N h_113 a_112) (Nat.le_of_ble_eq_true rfl) ⟨Nat.le_of_ble_eq_true rfl, Nat.le_of_ble_eq_true rfl⟩ dX11_init_229 (Nat.le_of_ble_eq_true rfl)) rfl rfl (fun _ h_114 => ?_)
  refine z_aastore C dX11_init_232 (fun h_115 => ?_)
  refine z_iinc (v := (4 : Int32)) C 0 dX11_init_233 [(1, .int (4 : Int32)), (0, .ref a0)] rfl rfl (by decide) rfl ?_
  refine z_goto C 214 dX11_init_236 rfl ?_
  refine z_iload_n C 0 dX11_init_214 rfl ?_
  refine z_bipush (v := (6 : Int32)) C dX11_init_215 rfl ?_
  refine z_icmpge_n C dX11_init_217 239 rfl (by decide) ?_
  refine z_aload_n C 1 dX11_init_220 rfl ?_
  refine z_getR C qX11_81 dX11_init_221 (fun a_116 => ?_)
  refine z_iload_n C 0 dX11_init_224 rfl ?_
  refine z_new (u' := (122, 1592, 125, 1715)) C nX11_79 rfl ⟨Nat.le_of_ble_eq_true rfl, Nat.le_of_ble_eq_true rfl⟩ dX11_init_225 (fun a_117 h_118 => ?_)
  refine z_dup C dX11_init_228 rfl ?_
  refine z_callc (u' := (123, 1652, 125, 1715)) (z_runIN (rest := [.ref a_117, .int (4 : Int32), .ref a_116]) C mX11_92 (kX8_init N h_118 a_117) (Nat.le_of_ble_eq_true rfl) ⟨Nat.le_of_ble_eq_true rfl, Nat.le_of_ble_eq_true rfl⟩ dX11_init_229 (Nat.le_of_ble_eq_true rfl)) rfl rfl (fun _ h_119 => ?_)
  refine z_aastore C dX11_init_232 (fun h_120 => ?_)
  refine z_iinc (v := (5 : Int32)) C 0 dX11_init_233 [(1, .int (5 : Int32)), (0, .ref a0)] rfl rfl (by decide) rfl ?_
  refine z_goto C 214 dX11_init_236 rfl ?_
  refine z_iload_n C 0 dX11_init_214 rfl ?_
  refine z_bipush (v := (6 : Int32)) C dX11_init_215 rfl ?_
  refine z_icmpge_n C dX11_init_217 239 rfl (by decide) ?_
  refine z_aload_n C 1 dX11_init_220 rfl ?_
  refine z_getR C qX11_81 dX11_init_221 (fun a_121 => ?_)
  refine z_iload_n C 0 dX11_init_224 rfl ?_
  refine z_new (u' := (124, 1655, 125, 1715)) C nX11_79 rfl ⟨Nat.le_of_ble_eq_true rfl, Nat.le_of_ble_eq_true rfl⟩ dX11_init_225 (fun a_122 h_123 => ?_)
  refine z_dup C dX11_init_228 rfl ?_
  refine z_callc (u' := (125, 1715, 125, 1715)) (z_runIN (rest := [.ref a_122, .int (5 : Int32), .ref a_121]) C mX11_92 (kX8_init N h_123 a_122) (Nat.le_of_ble_eq_true rfl) ⟨Nat.le_of_ble_eq_true rfl, Nat.le_of_ble_eq_true rfl⟩ dX11_init_229 (Nat.le_of_ble_eq_true rfl)) rfl rfl (fun _ h_124 => ?_)
  refine z_aastore C dX11_init_232 (fun h_125 => ?_)
  refine z_iinc (v := (6 : Int32)) C 0 dX11_init_233 [(1, .int (6 : Int32)), (0, .ref a0)] rfl rfl (by decide) rfl ?_
  refine z_goto C 214 dX11_init_236 rfl ?_
  refine z_iload_n C 0 dX11_init_214 rfl ?_
  refine z_bipush (v := (6 : Int32)) C dX11_init_215 rfl ?_
  refine z_icmpge_y C dX11_init_217 239 rfl (by decide) ?_
  exact z_return C ⟨rfl, rfl⟩ dX11_init_239
def fX12_init (N : Nat) (h : AH) (a0 : Nat) : Option (Unit × AH) :=
  znew h (.inl (0, 140, .inl (fun _ => 0))) fun a_1 h_2 =>
  (zput h_2 a0 12 0 (.ref a_1)).bind fun h_3 =>
  znew h_3 (.inl (0, 140, .inl (fun _ => 0))) fun a_4 h_5 =>
  (zput h_5 a0 12 1 (.ref a_4)).bind fun h_6 =>
  znew h_6 (.inl (0, 140, .inl (fun _ => 0))) fun a_7 h_8 =>
  (zput h_8 a0 12 2 (.ref a_7)).bind fun h_9 =>
  znew h_9 (.inl (0, 100, .inl (fun _ => 0))) fun a_10 h_11 =>
  (zput h_11 a0 12 4 (.ref a_10)).bind fun h_12 =>
  znew h_12 (.inl (0, 600, .inl (fun _ => 0))) fun a_13 h_14 =>
  (zput h_14 a0 12 6 (.ref a_13)).bind fun h_15 =>
  znew h_15 (.inl (0, 6, .inl (fun _ => 0))) fun a_16 h_17 =>
  (zput h_17 a0 12 7 (.ref a_16)).bind fun h_18 =>
  znew h_18 (.inl (0, 100, .inl (fun _ => 0))) fun a_19 h_20 =>
  (zput h_20 a0 12 9 (.ref a_19)).bind fun h_21 =>
  znew h_21 (.inl (0, 6, .inl (fun _ => 0))) fun a_22 h_23 =>
  (zput h_23 a0 12 16 (.ref a_22)).bind fun h_24 =>
  znew h_24 (.inl (2, 6, .inl (fun _ => 0))) fun a_25 h_26 =>
  (zast 2 h_26 a_25 (0 : Int32) (vp_nar .char (112 : Int32))).bind fun h_27 =>
  (zast 2 h_27 a_25 (1 : Int32) (vp_nar .char (107 : Int32))).bind fun h_28 =>
  (zast 2 h_28 a_25 (2 : Int32) (vp_nar .char (118 : Int32))).bind fun h_29 =>
  (zast 2 h_29 a_25 (3 : Int32) (vp_nar .char (102 : Int32))).bind fun h_30 =>
  (zast 2 h_30 a_25 (4 : Int32) (vp_nar .char (100 : Int32))).bind fun h_31 =>
  (zast 2 h_31 a_25 (5 : Int32) (vp_nar .char (115 : Int32))).bind fun h_32 =>
  (zput h_32 a0 12 17 (.ref a_25)).bind fun h_33 =>
  znew h_33 (.inl (2, 3, .inl (fun _ => 0))) fun a_34 h_35 =>
  (zast 2 h_35 a_34 (0 : Int32) (vp_nar .char (107 : Int32))).bind fun h_36 =>
  (zast 2 h_36 a_34 (1 : Int32) (vp_nar .char (108 : Int32))).bind fun h_37 =>
  (zast 2 h_37 a_34 (2 : Int32) (vp_nar .char (104 : Int32))).bind fun h_38 =>
  (zput h_38 a0 12 18 (.ref a_34)).bind fun h_39 =>
  znew h_39 (.inl (2, 15, .inl (fun _ => 0))) fun a_40 h_41 =>
  (zast 2 h_41 a_40 (0 : Int32) (vp_nar .char (107 : Int32))).bind fun h_42 =>
  (zast 2 h_42 a_40 (1 : Int32) (vp_nar .char (101 : Int32))).bind fun h_43 =>
  (zast 2 h_43 a_40 (2 : Int32) (vp_nar .char (101 : Int32))).bind fun h_44 =>
  (zast 2 h_44 a_40 (3 : Int32) (vp_nar .char (112 : Int32))).bind fun h_45 =>
  (zast 2 h_45 a_40 (4 : Int32) (vp_nar .char (0 : Int32))).bind fun h_46 =>
  (zast 2 h_46 a_40 (5 : Int32) (vp_nar .char (108 : Int32))).bind fun h_47 =>
  (zast 2 h_47 a_40 (6 : Int32) (vp_nar .char (111 : Int32))).bind fun h_48 =>
  (zast 2 h_48 a_40 (7 : Int32) (vp_nar .char (115 : Int32))).bind fun h_49 =>
  (zast 2 h_49 a_40 (8 : Int32) (vp_nar .char (101 : Int32))).bind fun h_50 =>
  (zast 2 h_50 a_40 (9 : Int32) (vp_nar .char (0 : Int32))).bind fun h_51 =>
  (zast 2 h_51 a_40 (10 : Int32) (vp_nar .char (104 : Int32))).bind fun h_52 =>
  (zast 2 h_52 a_40 (11 : Int32) (vp_nar .char (111 : Int32))).bind fun h_53 =>
  (zast 2 h_53 a_40 (12 : Int32) (vp_nar .char (117 : Int32))).bind fun h_54 =>
  (zast 2 h_54 a_40 (13 : Int32) (vp_nar .char (114 : Int32))).bind fun h_55 =>
  (zast 2 h_55 a_40 (14 : Int32) (vp_nar .char (115 : Int32))).bind fun h_56 =>
  (zput h_56 a0 12 19 (.ref a_40)).bind fun h_57 =>
  znew h_57 (.inl (0, 7, .inl (fun _ => 0))) fun a_58 h_59 =>
  (zast 0 h_59 a_58 (0 : Int32) (-1 : Int32)).bind fun h_60 =>
  (zast 0 h_60 a_58 (1 : Int32) (0 : Int32)).bind fun h_61 =>
  (zast 0 h_61 a_58 (2 : Int32) (0 : Int32)).bind fun h_62 =>
  (zast 0 h_62 a_58 (3 : Int32) (0 : Int32)).bind fun h_63 =>
  (zast 0 h_63 a_58 (4 : Int32) (1 : Int32)).bind fun h_64 =>
  (zast 0 h_64 a_58 (5 : Int32) (2 : Int32)).bind fun h_65 =>
  (zast 0 h_65 a_58 (6 : Int32) (3 : Int32)).bind fun h_66 =>
  (zput h_66 a0 12 20 (.ref a_58)).bind fun h_67 =>
  znew h_67 (.inl (0, 21, .inl (fun _ => 0))) fun a_68 h_69 =>
  (zast 0 h_69 a_68 (0 : Int32) (10 : Int32)).bind fun h_70 =>
  (zast 0 h_70 a_68 (1 : Int32) (11 : Int32)).bind fun h_71 =>
  (zast 0 h_71 a_68 (2 : Int32) (12 : Int32)).bind fun h_72 =>
  (zast 0 h_72 a_68 (3 : Int32) (0 : Int32)).bind fun h_73 =>
  (zast 0 h_73 a_68 (4 : Int32) (20 : Int32)).bind fun h_74 =>
  (zast 0 h_74 a_68 (5 : Int32) (0 : Int32)).bind fun h_75 =>
  (zast 0 h_75 a_68 (6 : Int32) (30 : Int32)).bind fun h_76 =>
  (zast 0 h_76 a_68 (7 : Int32) (0 : Int32)).bind fun h_77 =>
  (zast 0 h_77 a_68 (8 : Int32) (0 : Int32)).bind fun h_78 =>
  (zast 0 h_78 a_68 (9 : Int32) (0 : Int32)).bind fun h_79 =>
  (zast 0 h_79 a_68 (10 : Int32) (0 : Int32)).bind fun h_80 =>
  (zast 0 h_80 a_68 (11 : Int32) (40 : Int32)).bind fun h_81 =>
  (zast 0 h_81 a_68 (12 : Int32) (50 : Int32)).bind fun h_82 =>
  (zast 0 h_82 a_68 (13 : Int32) (51 : Int32)).bind fun h_83 =>
  (zast 0 h_83 a_68 (14 : Int32) (0 : Int32)).bind fun h_84 =>
  (zast 0 h_84 a_68 (15 : Int32) (0 : Int32)).bind fun h_85 =>
  (zast 0 h_85 a_68 (16 : Int32) (0 : Int32)).bind fun h_86 =>
  (zast 0 h_86 a_68 (17 : Int32) (60 : Int32)).bind fun h_87 =>
  (zast 0 h_87 a_68 (18 : Int32) (71 : Int32)).bind fun h_88 =>
  (zast 0 h_88 a_68 (19 : Int32) (70 : Int32)).bind fun h_89 =>
  (zast 0 h_89 a_68 (20 : Int32) (0 : Int32)).bind fun h_90 =>
  (zput h_90 a0 12 21 (.ref a_68)).bind fun h_91 =>
  znew h_91 (.inl (0, 20, .inl (fun _ => 0))) fun a_92 h_93 =>
  (zput h_93 a0 12 22 (.ref a_92)).bind fun h_94 =>
  znew h_94 (.inl (0, 6, .inl (fun _ => 0))) fun a_95 h_96 =>
  (zast 0 h_96 a_95 (0 : Int32) (-1 : Int32)).bind fun h_97 =>
  (zast 0 h_97 a_95 (1 : Int32) (-1 : Int32)).bind fun h_98 =>
  (zast 0 h_98 a_95 (2 : Int32) (-1 : Int32)).bind fun h_99 =>
  (zast 0 h_99 a_95 (3 : Int32) (-1 : Int32)).bind fun h_100 =>
  (zast 0 h_100 a_95 (4 : Int32) (-1 : Int32)).bind fun h_101 =>
  (zast 0 h_101 a_95 (5 : Int32) (-1 : Int32)).bind fun h_102 =>
  (zput h_102 a0 12 24 (.ref a_95)).bind fun h_103 =>
  znew h_103 (.inl (0, 6, .inl (fun _ => 0))) fun a_104 h_105 =>
  (zput h_105 a0 12 25 (.ref a_104)).bind fun h_106 =>
  znew h_106 (.inl (3, 360, .inr (.inl (fun _ => 0)))) fun a_107 h_108 =>
  (zput h_108 a0 12 26 (.ref a_107)).bind fun h_109 =>
  znew h_109 (.inl (3, 60, .inr (.inl (fun _ => 0)))) fun a_110 h_111 =>
  (zput h_111 a0 12 27 (.ref a_110)).bind fun h_112 =>
  some ((), h_112)
set_option maxRecDepth 4000 in
theorem kX12_init {l : Launch} {g : zG} (N : Nat) (h : AH) (a0 : Nat) : zM l g yX12_init cX12_init 1 none 1 18 1736 (fun _ : Unit => none) (fX12_init N h a0) h [.ref a0] := by
  refine zM.of (lv0 := [(0, .ref a0)]) (by decide) (Nat.le_of_ble_eq_true rfl) rfl (fun X hX C => ?_)
  subst hX
  unfold fX12_init
  refine z_aload_n C 0 dX12_init_0 rfl ?_
  refine z_objInit C oX12_3 zObI zObC (Nat.le_of_ble_eq_true rfl) (Nat.le_of_ble_eq_true rfl) dX12_init_1 ?_
  refine z_aload_n C 0 dX12_init_4 rfl ?_
  refine z_sipush (v := (140 : Int32)) C dX12_init_5 rfl ?_
  refine z_newaI (u' := (1, 140, 18, 1736)) C 140 zArI (by decide) rfl ⟨Nat.le_of_ble_eq_true rfl, Nat.le_of_ble_eq_true rfl⟩ dX12_init_8 (fun a_1 h_2 => ?_)
  refine z_putF C rfl pX12_9 rfl rfl dX12_init_10 (fun h_3 => ?_)
  refine z_aload_n C 0 dX12_init_13 rfl ?_
  refine z_sipush (v := (140 : Int32)) C dX12_init_14 rfl ?_
  refine z_newaI (u' := (2, 280, 18, 1736)) C 140 zArI (by decide) rfl ⟨Nat.le_of_ble_eq_true rfl, Nat.le_of_ble_eq_true rfl⟩ dX12_init_17 (fun a_4 h_5 => ?_)
  refine z_putF C rfl pX12_15 rfl rfl dX12_init_19 (fun h_6 => ?_)
  refine z_aload_n C 0 dX12_init_22 rfl ?_
  refine z_sipush (v := (140 : Int32)) C dX12_init_23 rfl ?_
  refine z_newaI (u' := (3, 420, 18, 1736)) C 140 zArI (by decide) rfl ⟨Nat.le_of_ble_eq_true rfl, Nat.le_of_ble_eq_true rfl⟩ dX12_init_26 (fun a_7 h_8 => ?_)
  refine z_putF C rfl pX12_18 rfl rfl dX12_init_28 (fun h_9 => ?_)
  refine z_aload_n C 0 dX12_init_31 rfl ?_
  refine z_bipush (v := (100 : Int32)) C dX12_init_32 rfl ?_
  refine z_newaI (u' := (4, 520, 18, 1736)) C 100 zArI (by decide) rfl ⟨Nat.le_of_ble_eq_true rfl, Nat.le_of_ble_eq_true rfl⟩ dX12_init_34 (fun a_10 h_11 => ?_)
  refine z_putF C rfl pX12_21 rfl rfl dX12_init_36 (fun h_12 => ?_)
  refine z_aload_n C 0 dX12_init_39 rfl ?_
  refine z_sipush (v := (600 : Int32)) C dX12_init_40 rfl ?_
  refine z_newaI (u' := (5, 1120, 18, 1736)) C 600 zArI (by decide) rfl ⟨Nat.le_of_ble_eq_true rfl, Nat.le_of_ble_eq_true rfl⟩ dX12_init_43 (fun a_13 h_14 => ?_)
  refine z_putF C rfl pX12_24 rfl rfl dX12_init_45 (fun h_15 => ?_)
  refine z_aload_n C 0 dX12_init_48 rfl ?_
  refine z_bipush (v := (6 : Int32)) C dX12_init_49 rfl ?_
  refine z_newaI (u' := (6, 1126, 18, 1736)) C 6 zArI (by decide) rfl ⟨Nat.le_of_ble_eq_true rfl, Nat.le_of_ble_eq_true rfl⟩ dX12_init_51 (fun a_16 h_17 => ?_)
  refine z_putF C rfl pX12_27 rfl rfl dX12_init_53 (fun h_18 => ?_)
  refine z_aload_n C 0 dX12_init_56 rfl ?_
  refine z_bipush (v := (100 : Int32)) C dX12_init_57 rfl ?_
  refine z_newaI (u' := (7, 1226, 18, 1736)) C 100 zArI (by decide) rfl ⟨Nat.le_of_ble_eq_true rfl, Nat.le_of_ble_eq_true rfl⟩ dX12_init_59 (fun a_19 h_20 => ?_)
  refine z_putF C rfl pX12_30 rfl rfl dX12_init_61 (fun h_21 => ?_)
  refine z_aload_n C 0 dX12_init_64 rfl ?_
  refine z_bipush (v := (6 : Int32)) C dX12_init_65 rfl ?_
  refine z_newaI (u' := (8, 1232, 18, 1736)) C 6 zArI (by decide) rfl ⟨Nat.le_of_ble_eq_true rfl, Nat.le_of_ble_eq_true rfl⟩ dX12_init_67 (fun a_22 h_23 => ?_)
  refine z_putF C rfl pX12_33 rfl rfl dX12_init_69 (fun h_24 => ?_)
  refine z_aload_n C 0 dX12_init_72 rfl ?_
  refine z_bipush (v := (6 : Int32)) C dX12_init_73 rfl ?_
  refine z_newaC (u' := (9, 1238, 18, 1736)) C 6 zArC (by decide) rfl ⟨Nat.le_of_ble_eq_true rfl, Nat.le_of_ble_eq_true rfl⟩ dX12_init_75 (fun a_25 h_26 => ?_)
  refine z_dup C dX12_init_77 rfl ?_
  refine z_iconst (v := (0 : Int32)) C dX12_init_78 rfl ?_
  refine z_bipush (v := (112 : Int32)) C dX12_init_79 rfl ?_
  refine z_castore C dX12_init_81 (fun h_27 => ?_)
  refine z_dup C dX12_init_82 rfl ?_
  refine z_iconst (v := (1 : Int32)) C dX12_init_83 rfl ?_
  refine z_bipush (v := (107 : Int32)) C dX12_init_84 rfl ?_
  refine z_castore C dX12_init_86 (fun h_28 => ?_)
  refine z_dup C dX12_init_87 rfl ?_
  refine z_iconst (v := (2 : Int32)) C dX12_init_88 rfl ?_
  refine z_bipush (v := (118 : Int32)) C dX12_init_89 rfl ?_
  refine z_castore C dX12_init_91 (fun h_29 => ?_)
  refine z_dup C dX12_init_92 rfl ?_
  refine z_iconst (v := (3 : Int32)) C dX12_init_93 rfl ?_
  refine z_bipush (v := (102 : Int32)) C dX12_init_94 rfl ?_
  refine z_castore C dX12_init_96 (fun h_30 => ?_)
  refine z_dup C dX12_init_97 rfl ?_
  refine z_iconst (v := (4 : Int32)) C dX12_init_98 rfl ?_
  refine z_bipush (v := (100 : Int32)) C dX12_init_99 rfl ?_
  refine z_castore C dX12_init_101 (fun h_31 => ?_)
  refine z_dup C dX12_init_102 rfl ?_
  refine z_iconst (v := (5 : Int32)) C dX12_init_103 rfl ?_
  refine z_bipush (v := (115 : Int32)) C dX12_init_104 rfl ?_
  refine z_castore C dX12_init_106 (fun h_32 => ?_)
  refine z_putF C rfl pX12_36 rfl rfl dX12_init_107 (fun h_33 => ?_)
  refine z_aload_n C 0 dX12_init_110 rfl ?_
  refine z_iconst (v := (3 : Int32)) C dX12_init_111 rfl ?_
  refine z_newaC (u' := (10, 1241, 18, 1736)) C 3 zArC (by decide) rfl ⟨Nat.le_of_ble_eq_true rfl, Nat.le_of_ble_eq_true rfl⟩ dX12_init_112 (fun a_34 h_35 => ?_)
  refine z_dup C dX12_init_114 rfl ?_
  refine z_iconst (v := (0 : Int32)) C dX12_init_115 rfl ?_
  refine z_bipush (v := (107 : Int32)) C dX12_init_116 rfl ?_
  refine z_castore C dX12_init_118 (fun h_36 => ?_)
  refine z_dup C dX12_init_119 rfl ?_
  refine z_iconst (v := (1 : Int32)) C dX12_init_120 rfl ?_
  refine z_bipush (v := (108 : Int32)) C dX12_init_121 rfl ?_
  refine z_castore C dX12_init_123 (fun h_37 => ?_)
  refine z_dup C dX12_init_124 rfl ?_
  refine z_iconst (v := (2 : Int32)) C dX12_init_125 rfl ?_
  refine z_bipush (v := (104 : Int32)) C dX12_init_126 rfl ?_
  refine z_castore C dX12_init_128 (fun h_38 => ?_)
  refine z_putF C rfl pX12_40 rfl rfl dX12_init_129 (fun h_39 => ?_)
  refine z_aload_n C 0 dX12_init_132 rfl ?_
  refine z_bipush (v := (15 : Int32)) C dX12_init_133 rfl ?_
  refine z_newaC (u' := (11, 1256, 18, 1736)) C 15 zArC (by decide) rfl ⟨Nat.le_of_ble_eq_true rfl, Nat.le_of_ble_eq_true rfl⟩ dX12_init_135 (fun a_40 h_41 => ?_)
  refine z_dup C dX12_init_137 rfl ?_
  refine z_iconst (v := (0 : Int32)) C dX12_init_138 rfl ?_
  refine z_bipush (v := (107 : Int32)) C dX12_init_139 rfl ?_
  refine z_castore C dX12_init_141 (fun h_42 => ?_)
  refine z_dup C dX12_init_142 rfl ?_
  refine z_iconst (v := (1 : Int32)) C dX12_init_143 rfl ?_
  refine z_bipush (v := (101 : Int32)) C dX12_init_144 rfl ?_
  refine z_castore C dX12_init_146 (fun h_43 => ?_)
  refine z_dup C dX12_init_147 rfl ?_
  refine z_iconst (v := (2 : Int32)) C dX12_init_148 rfl ?_
  refine z_bipush (v := (101 : Int32)) C dX12_init_149 rfl ?_
  refine z_castore C dX12_init_151 (fun h_44 => ?_)
  refine z_dup C dX12_init_152 rfl ?_
  refine z_iconst (v := (3 : Int32)) C dX12_init_153 rfl ?_
  refine z_bipush (v := (112 : Int32)) C dX12_init_154 rfl ?_
  refine z_castore C dX12_init_156 (fun h_45 => ?_)
  refine z_dup C dX12_init_157 rfl ?_
  refine z_iconst (v := (4 : Int32)) C dX12_init_158 rfl ?_
  refine z_iconst (v := (0 : Int32)) C dX12_init_159 rfl ?_
  refine z_castore C dX12_init_160 (fun h_46 => ?_)
  refine z_dup C dX12_init_161 rfl ?_
  refine z_iconst (v := (5 : Int32)) C dX12_init_162 rfl ?_
  refine z_bipush (v := (108 : Int32)) C dX12_init_163 rfl ?_
  refine z_castore C dX12_init_165 (fun h_47 => ?_)
  refine z_dup C dX12_init_166 rfl ?_
  refine z_bipush (v := (6 : Int32)) C dX12_init_167 rfl ?_
  refine z_bipush (v := (111 : Int32)) C dX12_init_169 rfl ?_
  refine z_castore C dX12_init_171 (fun h_48 => ?_)
  refine z_dup C dX12_init_172 rfl ?_
  refine z_bipush (v := (7 : Int32)) C dX12_init_173 rfl ?_
  refine z_bipush (v := (115 : Int32)) C dX12_init_175 rfl ?_
  refine z_castore C dX12_init_177 (fun h_49 => ?_)
  refine z_dup C dX12_init_178 rfl ?_
  refine z_bipush (v := (8 : Int32)) C dX12_init_179 rfl ?_
  refine z_bipush (v := (101 : Int32)) C dX12_init_181 rfl ?_
  refine z_castore C dX12_init_183 (fun h_50 => ?_)
  refine z_dup C dX12_init_184 rfl ?_
  refine z_bipush (v := (9 : Int32)) C dX12_init_185 rfl ?_
  refine z_iconst (v := (0 : Int32)) C dX12_init_187 rfl ?_
  refine z_castore C dX12_init_188 (fun h_51 => ?_)
  refine z_dup C dX12_init_189 rfl ?_
  refine z_bipush (v := (10 : Int32)) C dX12_init_190 rfl ?_
  refine z_bipush (v := (104 : Int32)) C dX12_init_192 rfl ?_
  refine z_castore C dX12_init_194 (fun h_52 => ?_)
  refine z_dup C dX12_init_195 rfl ?_
  refine z_bipush (v := (11 : Int32)) C dX12_init_196 rfl ?_
  refine z_bipush (v := (111 : Int32)) C dX12_init_198 rfl ?_
  refine z_castore C dX12_init_200 (fun h_53 => ?_)
  refine z_dup C dX12_init_201 rfl ?_
  refine z_bipush (v := (12 : Int32)) C dX12_init_202 rfl ?_
  refine z_bipush (v := (117 : Int32)) C dX12_init_204 rfl ?_
  refine z_castore C dX12_init_206 (fun h_54 => ?_)
  refine z_dup C dX12_init_207 rfl ?_
  refine z_bipush (v := (13 : Int32)) C dX12_init_208 rfl ?_
  refine z_bipush (v := (114 : Int32)) C dX12_init_210 rfl ?_
  refine z_castore C dX12_init_212 (fun h_55 => ?_)
  refine z_dup C dX12_init_213 rfl ?_
  refine z_bipush (v := (14 : Int32)) C dX12_init_214 rfl ?_
  refine z_bipush (v := (115 : Int32)) C dX12_init_216 rfl ?_
  refine z_castore C dX12_init_218 (fun h_56 => ?_)
  refine z_putF C rfl pX12_43 rfl rfl dX12_init_219 (fun h_57 => ?_)
  refine z_aload_n C 0 dX12_init_222 rfl ?_
  refine z_bipush (v := (7 : Int32)) C dX12_init_223 rfl ?_
  refine z_newaI (u' := (12, 1263, 18, 1736)) C 7 zArI (by decide) rfl ⟨Nat.le_of_ble_eq_true rfl, Nat.le_of_ble_eq_true rfl⟩ dX12_init_225 (fun a_58 h_59 => ?_)
  refine z_dup C dX12_init_227 rfl ?_
  refine z_iconst (v := (0 : Int32)) C dX12_init_228 rfl ?_
  refine z_iconst (v := (-1 : Int32)) C dX12_init_229 rfl ?_
  refine z_iastore C dX12_init_230 (fun h_60 => ?_)
  refine z_dup C dX12_init_231 rfl ?_
  refine z_iconst (v := (1 : Int32)) C dX12_init_232 rfl ?_
  refine z_iconst (v := (0 : Int32)) C dX12_init_233 rfl ?_
  refine z_iastore C dX12_init_234 (fun h_61 => ?_)
  refine z_dup C dX12_init_235 rfl ?_
  refine z_iconst (v := (2 : Int32)) C dX12_init_236 rfl ?_
  refine z_iconst (v := (0 : Int32)) C dX12_init_237 rfl ?_
  refine z_iastore C dX12_init_238 (fun h_62 => ?_)
  refine z_dup C dX12_init_239 rfl ?_
  refine z_iconst (v := (3 : Int32)) C dX12_init_240 rfl ?_
  refine z_iconst (v := (0 : Int32)) C dX12_init_241 rfl ?_
  refine z_iastore C dX12_init_242 (fun h_63 => ?_)
  refine z_dup C dX12_init_243 rfl ?_
  refine z_iconst (v := (4 : Int32)) C dX12_init_244 rfl ?_
  refine z_iconst (v := (1 : Int32)) C dX12_init_245 rfl ?_
  refine z_iastore C dX12_init_246 (fun h_64 => ?_)
  refine z_dup C dX12_init_247 rfl ?_
  refine z_iconst (v := (5 : Int32)) C dX12_init_248 rfl ?_
  refine z_iconst (v := (2 : Int32)) C dX12_init_249 rfl ?_
  refine z_iastore C dX12_init_250 (fun h_65 => ?_)
  refine z_dup C dX12_init_251 rfl ?_
  refine z_bipush (v := (6 : Int32)) C dX12_init_252 rfl ?_
  refine z_iconst (v := (3 : Int32)) C dX12_init_254 rfl ?_
  refine z_iastore C dX12_init_255 (fun h_66 => ?_)
  refine z_putF C rfl pX12_46 rfl rfl dX12_init_256 (fun h_67 => ?_)
  refine z_aload_n C 0 dX12_init_259 rfl ?_
  refine z_bipush (v := (21 : Int32)) C dX12_init_260 rfl ?_
  refine z_newaI (u' := (13, 1284, 18, 1736)) C 21 zArI (by decide) rfl ⟨Nat.le_of_ble_eq_true rfl, Nat.le_of_ble_eq_true rfl⟩ dX12_init_262 (fun a_68 h_69 => ?_)
  refine z_dup C dX12_init_264 rfl ?_
  refine z_iconst (v := (0 : Int32)) C dX12_init_265 rfl ?_
  refine z_bipush (v := (10 : Int32)) C dX12_init_266 rfl ?_
  refine z_iastore C dX12_init_268 (fun h_70 => ?_)
  refine z_dup C dX12_init_269 rfl ?_
  refine z_iconst (v := (1 : Int32)) C dX12_init_270 rfl ?_
  refine z_bipush (v := (11 : Int32)) C dX12_init_271 rfl ?_
  refine z_iastore C dX12_init_273 (fun h_71 => ?_)
  refine z_dup C dX12_init_274 rfl ?_
  refine z_iconst (v := (2 : Int32)) C dX12_init_275 rfl ?_
  refine z_bipush (v := (12 : Int32)) C dX12_init_276 rfl ?_
  refine z_iastore C dX12_init_278 (fun h_72 => ?_)
  refine z_dup C dX12_init_279 rfl ?_
  refine z_iconst (v := (3 : Int32)) C dX12_init_280 rfl ?_
  refine z_iconst (v := (0 : Int32)) C dX12_init_281 rfl ?_
  refine z_iastore C dX12_init_282 (fun h_73 => ?_)
  refine z_dup C dX12_init_283 rfl ?_
  refine z_iconst (v := (4 : Int32)) C dX12_init_284 rfl ?_
  refine z_bipush (v := (20 : Int32)) C dX12_init_285 rfl ?_
  refine z_iastore C dX12_init_287 (fun h_74 => ?_)
  refine z_dup C dX12_init_288 rfl ?_
  refine z_iconst (v := (5 : Int32)) C dX12_init_289 rfl ?_
  refine z_iconst (v := (0 : Int32)) C dX12_init_290 rfl ?_
  refine z_iastore C dX12_init_291 (fun h_75 => ?_)
  refine z_dup C dX12_init_292 rfl ?_
  refine z_bipush (v := (6 : Int32)) C dX12_init_293 rfl ?_
  refine z_bipush (v := (30 : Int32)) C dX12_init_295 rfl ?_
  refine z_iastore C dX12_init_297 (fun h_76 => ?_)
  refine z_dup C dX12_init_298 rfl ?_
  refine z_bipush (v := (7 : Int32)) C dX12_init_299 rfl ?_
  refine z_iconst (v := (0 : Int32)) C dX12_init_301 rfl ?_
  refine z_iastore C dX12_init_302 (fun h_77 => ?_)
  refine z_dup C dX12_init_303 rfl ?_
  refine z_bipush (v := (8 : Int32)) C dX12_init_304 rfl ?_
  refine z_iconst (v := (0 : Int32)) C dX12_init_306 rfl ?_
  refine z_iastore C dX12_init_307 (fun h_78 => ?_)
  refine z_dup C dX12_init_308 rfl ?_
  refine z_bipush (v := (9 : Int32)) C dX12_init_309 rfl ?_
  refine z_iconst (v := (0 : Int32)) C dX12_init_311 rfl ?_
  refine z_iastore C dX12_init_312 (fun h_79 => ?_)
  refine z_dup C dX12_init_313 rfl ?_
  refine z_bipush (v := (10 : Int32)) C dX12_init_314 rfl ?_
  refine z_iconst (v := (0 : Int32)) C dX12_init_316 rfl ?_
  refine z_iastore C dX12_init_317 (fun h_80 => ?_)
  refine z_dup C dX12_init_318 rfl ?_
  refine z_bipush (v := (11 : Int32)) C dX12_init_319 rfl ?_
  refine z_bipush (v := (40 : Int32)) C dX12_init_321 rfl ?_
  refine z_iastore C dX12_init_323 (fun h_81 => ?_)
  refine z_dup C dX12_init_324 rfl ?_
  refine z_bipush (v := (12 : Int32)) C dX12_init_325 rfl ?_
  refine z_bipush (v := (50 : Int32)) C dX12_init_327 rfl ?_
  refine z_iastore C dX12_init_329 (fun h_82 => ?_)
  refine z_dup C dX12_init_330 rfl ?_
  refine z_bipush (v := (13 : Int32)) C dX12_init_331 rfl ?_
  refine z_bipush (v := (51 : Int32)) C dX12_init_333 rfl ?_
  refine z_iastore C dX12_init_335 (fun h_83 => ?_)
  refine z_dup C dX12_init_336 rfl ?_
  refine z_bipush (v := (14 : Int32)) C dX12_init_337 rfl ?_
  refine z_iconst (v := (0 : Int32)) C dX12_init_339 rfl ?_
  refine z_iastore C dX12_init_340 (fun h_84 => ?_)
  refine z_dup C dX12_init_341 rfl ?_
  refine z_bipush (v := (15 : Int32)) C dX12_init_342 rfl ?_
  refine z_iconst (v := (0 : Int32)) C dX12_init_344 rfl ?_
  refine z_iastore C dX12_init_345 (fun h_85 => ?_)
  refine z_dup C dX12_init_346 rfl ?_
  refine z_bipush (v := (16 : Int32)) C dX12_init_347 rfl ?_
  refine z_iconst (v := (0 : Int32)) C dX12_init_349 rfl ?_
  refine z_iastore C dX12_init_350 (fun h_86 => ?_)
  refine z_dup C dX12_init_351 rfl ?_
  refine z_bipush (v := (17 : Int32)) C dX12_init_352 rfl ?_
  refine z_bipush (v := (60 : Int32)) C dX12_init_354 rfl ?_
  refine z_iastore C dX12_init_356 (fun h_87 => ?_)
  refine z_dup C dX12_init_357 rfl ?_
  refine z_bipush (v := (18 : Int32)) C dX12_init_358 rfl ?_
  refine z_bipush (v := (71 : Int32)) C dX12_init_360 rfl ?_
  refine z_iastore C dX12_init_362 (fun h_88 => ?_)
  refine z_dup C dX12_init_363 rfl ?_
  refine z_bipush (v := (19 : Int32)) C dX12_init_364 rfl ?_
  refine z_bipush (v := (70 : Int32)) C dX12_init_366 rfl ?_
  refine z_iastore C dX12_init_368 (fun h_89 => ?_)
  refine z_dup C dX12_init_369 rfl ?_
  refine z_bipush (v := (20 : Int32)) C dX12_init_370 rfl ?_
  refine z_iconst (v := (0 : Int32)) C dX12_init_372 rfl ?_
  refine z_iastore C dX12_init_373 (fun h_90 => ?_)
  refine z_putF C rfl pX12_49 rfl rfl dX12_init_374 (fun h_91 => ?_)
  refine z_aload_n C 0 dX12_init_377 rfl ?_
  refine z_bipush (v := (20 : Int32)) C dX12_init_378 rfl ?_
  refine z_newaI (u' := (14, 1304, 18, 1736)) C 20 zArI (by decide) rfl ⟨Nat.le_of_ble_eq_true rfl, Nat.le_of_ble_eq_true rfl⟩ dX12_init_380 (fun a_92 h_93 => ?_)
  refine z_putF C rfl pX12_52 rfl rfl dX12_init_382 (fun h_94 => ?_)
  refine z_aload_n C 0 dX12_init_385 rfl ?_
  refine z_bipush (v := (6 : Int32)) C dX12_init_386 rfl ?_
  refine z_newaI (u' := (15, 1310, 18, 1736)) C 6 zArI (by decide) rfl ⟨Nat.le_of_ble_eq_true rfl, Nat.le_of_ble_eq_true rfl⟩ dX12_init_388 (fun a_95 h_96 => ?_)
  refine z_dup C dX12_init_390 rfl ?_
  refine z_iconst (v := (0 : Int32)) C dX12_init_391 rfl ?_
  refine z_iconst (v := (-1 : Int32)) C dX12_init_392 rfl ?_
  refine z_iastore C dX12_init_393 (fun h_97 => ?_)
  refine z_dup C dX12_init_394 rfl ?_
  refine z_iconst (v := (1 : Int32)) C dX12_init_395 rfl ?_
  refine z_iconst (v := (-1 : Int32)) C dX12_init_396 rfl ?_
  refine z_iastore C dX12_init_397 (fun h_98 => ?_)
  refine z_dup C dX12_init_398 rfl ?_
  refine z_iconst (v := (2 : Int32)) C dX12_init_399 rfl ?_
  refine z_iconst (v := (-1 : Int32)) C dX12_init_400 rfl ?_
  refine z_iastore C dX12_init_401 (fun h_99 => ?_)
  refine z_dup C dX12_init_402 rfl ?_
  refine z_iconst (v := (3 : Int32)) C dX12_init_403 rfl ?_
  refine z_iconst (v := (-1 : Int32)) C dX12_init_404 rfl ?_
  refine z_iastore C dX12_init_405 (fun h_100 => ?_)
  refine z_dup C dX12_init_406 rfl ?_
  refine z_iconst (v := (4 : Int32)) C dX12_init_407 rfl ?_
  refine z_iconst (v := (-1 : Int32)) C dX12_init_408 rfl ?_
  refine z_iastore C dX12_init_409 (fun h_101 => ?_)
  refine z_dup C dX12_init_410 rfl ?_
  refine z_iconst (v := (5 : Int32)) C dX12_init_411 rfl ?_
  refine z_iconst (v := (-1 : Int32)) C dX12_init_412 rfl ?_
  refine z_iastore C dX12_init_413 (fun h_102 => ?_)
  refine z_putF C rfl pX12_55 rfl rfl dX12_init_414 (fun h_103 => ?_)
  refine z_aload_n C 0 dX12_init_417 rfl ?_
  refine z_bipush (v := (6 : Int32)) C dX12_init_418 rfl ?_
  refine z_newaI (u' := (16, 1316, 18, 1736)) C 6 zArI (by decide) rfl ⟨Nat.le_of_ble_eq_true rfl, Nat.le_of_ble_eq_true rfl⟩ dX12_init_420 (fun a_104 h_105 => ?_)
  refine z_putF C rfl pX12_58 rfl rfl dX12_init_422 (fun h_106 => ?_)
  refine z_aload_n C 0 dX12_init_425 rfl ?_
  refine z_sipush (v := (360 : Int32)) C dX12_init_426 rfl ?_
  refine z_newaJ (u' := (17, 1676, 18, 1736)) C 360 zArJ (by decide) rfl ⟨Nat.le_of_ble_eq_true rfl, Nat.le_of_ble_eq_true rfl⟩ dX12_init_429 (fun a_107 h_108 => ?_)
  refine z_putF C rfl pX12_61 rfl rfl dX12_init_431 (fun h_109 => ?_)
  refine z_aload_n C 0 dX12_init_434 rfl ?_
  refine z_bipush (v := (60 : Int32)) C dX12_init_435 rfl ?_
  refine z_newaJ (u' := (18, 1736, 18, 1736)) C 60 zArJ (by decide) rfl ⟨Nat.le_of_ble_eq_true rfl, Nat.le_of_ble_eq_true rfl⟩ dX12_init_437 (fun a_110 h_111 => ?_)
  refine z_putF C rfl pX12_65 rfl rfl dX12_init_439 (fun h_112 => ?_)
  exact z_return C ⟨rfl, rfl⟩ dX12_init_442
