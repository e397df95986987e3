def fX12_isIn (N : Nat) (h : AH) (x0 : Int32) (x1 : Int32) (x2 : Int32) : Option (Int32 × AH) :=
  (if x0 < x1 then
  zret .boolean (0 : Int32) h
  else
  (if x2 < x0 then
  zret .boolean (0 : Int32) h
  else
  zret .boolean (1 : Int32) h))
theorem kX12_isIn {l : Launch} {g : zG} (N : Nat) (h : AH) (x0 : Int32) (x1 : Int32) (x2 : Int32) : zM l g yX12_isIn cX12_isIn 3 (some .boolean) (1) 0 0 (fun v : Int32 => some (.int v)) (fX12_isIn N h x0 x1 x2) h [.int x0, .int x1, .int x2] := by
  refine zM.of (lv0 := [(0, .int x0), (1, .int x1), (2, .int x2)]) (by decide) (Nat.le_of_ble_eq_true rfl) rfl (fun X hX C => ?_)
  subst hX
  unfold fX12_isIn
  refine z_iload_n C 0 dX12_isIn_0 rfl ?_
  refine z_iload_n C 1 dX12_isIn_1 rfl ?_
  refine z_icmplt C 14 dX12_isIn_2 rfl ?_ ?_
  · refine z_iconst (v := (0 : Int32)) C dX12_isIn_14 rfl ?_
    exact z_zreturn C ⟨rfl, rfl⟩ dX12_isIn_15
  · refine z_iload_n C 0 dX12_isIn_5 rfl ?_
    refine z_iload_n C 2 dX12_isIn_6 rfl ?_
    refine z_icmpgt C 14 dX12_isIn_7 rfl ?_ ?_
    · refine z_iconst (v := (0 : Int32)) C dX12_isIn_14 rfl ?_
      exact z_zreturn C ⟨rfl, rfl⟩ dX12_isIn_15
    · refine z_iconst (v := (1 : Int32)) C dX12_isIn_10 rfl ?_
      refine z_goto C 15 dX12_isIn_11 rfl ?_
      exact z_zreturn C ⟨rfl, rfl⟩ dX12_isIn_15
def bX12_move_2 (N : Nat) (r2 : AH → Nat → Nat → Int32 → Option (Unit × AH)) (h : AH) (a0 : Nat) (a1 : Nat) (x2 : Int32) : Option (Unit × AH) :=
  (if (140 : Int32) ≤ x2 then
  some ((), h)
  else
  (zald 0 h a0 x2).bind fun v_1 =>
  (zast 0 h a1 x2 v_1).bind fun h_2 =>
  r2 h_2 a0 a1 (x2 + (1 : Int32)))
theorem tX12_move_2 {X : zX} {g : zG} (C : zC X g yX12_move cX12_move 3 1 0 0 none) (N : Nat) (n : Nat) : ∀ (h : AH) (a0 : Nat) (a1 : Nat) (x2 : Int32), ZZ X g 3 (0, 0, 0, 0) (fun _ : Unit => none) (zfix (fun _ _ _ _ => none) (bX12_move_2 N) n h a0 a1 x2) h 2 [(0, .ref a0), (1, .ref a1), (2, .int x2)] [] := by
  induction n with
  | zero => intro h a0 a1 x2; exact z_none
  | succ n hr2 =>
    intro h a0 a1 x2
    show ZZ X g 3 (0, 0, 0, 0) _ (bX12_move_2 N (zfix (fun _ _ _ _ => none) (bX12_move_2 N) n) h a0 a1 x2) h 2 _ _
    unfold bX12_move_2
    refine z_iload_n C 2 dX12_move_2 rfl ?_
    refine z_sipush (v := (140 : Int32)) C dX12_move_3 rfl ?_
    refine z_icmpge C 21 dX12_move_6 rfl ?_ ?_
    · exact z_return C ⟨rfl, rfl⟩ dX12_move_21
    · refine z_aload_n C 1 dX12_move_9 rfl ?_
      refine z_iload_n C 2 dX12_move_10 rfl ?_
      refine z_aload_n C 0 dX12_move_11 rfl ?_
      refine z_iload_n C 2 dX12_move_12 rfl ?_
      refine z_iaload C dX12_move_13 (fun v_1 => ?_)
      refine z_iastore C dX12_move_14 (fun h_2 => ?_)
      refine z_iinc (v := x2 + (1 : Int32)) C 2 dX12_move_15 [(2, .int (x2 + (1 : Int32))), (0, .ref a0), (1, .ref a1)] rfl rfl (by decide) rfl ?_
      refine z_goto C 2 dX12_move_18 rfl ?_
      exact z_lv _ [1, 2, 0] rfl (hr2 _ a0 a1 (x2 + (1 : Int32)))
def fX12_move (N : Nat) (h : AH) (a0 : Nat) (a1 : Nat) : Option (Unit × AH) :=
  zfix (fun _ _ _ _ => none) (bX12_move_2 N) N h a0 a1 (0 : Int32)
theorem kX12_move {l : Launch} {g : zG} (N : Nat) (h : AH) (a0 : Nat) (a1 : Nat) : zM l g yX12_move cX12_move 3 none (1) 0 0 (fun _ : Unit => none) (fX12_move N h a0 a1) h [.ref a0, .ref a1] := by
  refine zM.of (lv0 := [(0, .ref a0), (1, .ref a1)]) (by decide) (Nat.le_of_ble_eq_true rfl) rfl (fun X hX C => ?_)
  subst hX
  unfold fX12_move
  refine z_iconst (v := (0 : Int32)) C dX12_move_0 rfl ?_
  refine z_istore_n C dX12_move_1 [(2, .int (0 : Int32)), (0, .ref a0), (1, .ref a1)] (by decide) rfl ?_
  exact z_lv _ [1, 2, 0] rfl (tX12_move_2 C N N _ a0 a1 (0 : Int32))
def fX12_image (N : Nat) (h : AH) (a0 : Nat) : Option (Int32 × AH) :=
  (zputZ h a0 12 3 (1 : Int32)).bind fun h_1 =>
  (zgR h_1 a0 12 0).bind fun a_2 =>
  (zgR h_1 a0 12 2).bind fun a_3 =>
  zcall (fX12_move N h_1 a_2 a_3) fun _ h_4 =>
  (zgR h_4 a0 12 0).bind fun a_5 =>
  (zald 0 h_4 a_5 (76 : Int32)).bind fun v_6 =>
  some (v_6, h_4)
theorem kX12_image {l : Launch} {g : zG} (N : Nat) (h : AH) (a0 : Nat) : zM l g yX12_image cX12_image 1 (some .int) (2) 0 0 (fun v : Int32 => some (.int v)) (fX12_image N h a0) h [.ref a0] := by
  refine zM.of (lv0 := [(0, .ref a0)]) (by decide) (Nat.le_of_ble_eq_true rfl) rfl (fun X hX C => ?_)
  subst hX
  unfold fX12_image
  refine z_aload_n C 0 dX12_image_0 rfl ?_
  refine z_iconst (v := (1 : Int32)) C dX12_image_1 rfl ?_
  refine z_putZ C pX12_68 dX12_image_2 (fun h_1 => ?_)
  refine z_aload_n C 0 dX12_image_5 rfl ?_
  refine z_getR C qX12_9 dX12_image_6 (fun a_2 => ?_)
  refine z_aload_n C 0 dX12_image_9 rfl ?_
  refine z_getR C qX12_18 dX12_image_10 (fun a_3 => ?_)
  refine z_callv (z_runS (As := [.ref a_2, .ref a_3]) (rest := []) C mX12_72 (kX12_move N h_1 a_2 a_3) (Nat.le_of_ble_eq_true rfl) ⟨Nat.zero_le _, Nat.zero_le _⟩ dX12_image_13 rfl rfl (Nat.le_of_ble_eq_true rfl)) rfl (fun _ h_4 => ?_)
  refine z_aload_n C 0 dX12_image_16 rfl ?_
  refine z_getR C qX12_9 dX12_image_17 (fun a_5 => ?_)
  refine z_bipush (v := (76 : Int32)) C dX12_image_20 rfl ?_
  refine z_iaload C dX12_image_22 (fun v_6 => ?_)
  exact z_ireturn C ⟨rfl, rfl⟩ dX12_image_23
def fX12_undo (N : Nat) (h : AH) (a0 : Nat) : Option (Int32 × AH) :=
  (zgI h a0 12 3).bind fun v_1 =>
  (if v_1 = (0) then
  some ((-3 : Int32), h)
  else
  (zgR h a0 12 2).bind fun a_2 =>
  (zgR h a0 12 0).bind fun a_3 =>
  zcall (fX12_move N h a_2 a_3) fun _ h_4 =>
  (zgR h_4 a0 12 0).bind fun a_5 =>
  (zald 0 h_4 a_5 (76 : Int32)).bind fun v_6 =>
  some (v_6, h_4))
theorem kX12_undo {l : Launch} {g : zG} (N : Nat) (h : AH) (a0 : Nat) : zM l g yX12_undo cX12_undo 1 (some .int) (2) 0 0 (fun v : Int32 => some (.int v)) (fX12_undo N h a0) h [.ref a0] := by
  refine zM.of (lv0 := [(0, .ref a0)]) (by decide) (Nat.le_of_ble_eq_true rfl) rfl (fun X hX C => ?_)
  subst hX
  unfold fX12_undo
  refine z_aload_n C 0 dX12_undo_0 rfl ?_
  refine z_getI C qX12_68 dX12_undo_1 (fun v_1 => ?_)
  refine z_ifne C 10 dX12_undo_4 rfl ?_ ?_
  · refine z_aload_n C 0 dX12_undo_10 rfl ?_
    refine z_getR C qX12_18 dX12_undo_11 (fun a_2 => ?_)
    refine z_aload_n C 0 dX12_undo_14 rfl ?_
    refine z_getR C qX12_9 dX12_undo_15 (fun a_3 => ?_)
    refine z_callv (z_runS (As := [.ref a_2, .ref a_3]) (rest := []) C mX12_72 (kX12_move N h a_2 a_3) (Nat.le_of_ble_eq_true rfl) ⟨Nat.zero_le _, Nat.zero_le _⟩ dX12_undo_18 rfl rfl (Nat.le_of_ble_eq_true rfl)) rfl (fun _ h_4 => ?_)
    refine z_aload_n C 0 dX12_undo_21 rfl ?_
    refine z_getR C qX12_9 dX12_undo_22 (fun a_5 => ?_)
    refine z_bipush (v := (76 : Int32)) C dX12_undo_25 rfl ?_
    refine z_iaload C dX12_undo_27 (fun v_6 => ?_)
    exact z_ireturn C ⟨rfl, rfl⟩ dX12_undo_28
  · refine z_bipush (v := (-3 : Int32)) C dX12_undo_7 rfl ?_
    exact z_ireturn C ⟨rfl, rfl⟩ dX12_undo_9
def fX12_isMaster (N : Nat) (h : AH) (a0 : Nat) (x1 : Int32) : Option (Int32 × AH) :=
  (zgR h a0 12 0).bind fun a_1 =>
  (zald 0 h a_1 (76 : Int32)).bind fun v_2 =>
  zcall (fX12_isIn N h x1 (0 : Int32) (v_2 - (1 : Int32))) fun v_4 h_3 =>
  zret .boolean v_4 h_3
theorem kX12_isMaster {l : Launch} {g : zG} (N : Nat) (h : AH) (a0 : Nat) (x1 : Int32) : zM l g yX12_isMaster cX12_isMaster 2 (some .boolean) (2) 0 0 (fun v : Int32 => some (.int v)) (fX12_isMaster N h a0 x1) h [.ref a0, .int x1] := by
  refine zM.of (lv0 := [(0, .ref a0), (1, .int x1)]) (by decide) (Nat.le_of_ble_eq_true rfl) rfl (fun X hX C => ?_)
  subst hX
  unfold fX12_isMaster
  refine z_iload_n C 1 dX12_isMaster_0 rfl ?_
  refine z_iconst (v := (0 : Int32)) C dX12_isMaster_1 rfl ?_
  refine z_aload_n C 0 dX12_isMaster_2 rfl ?_
  refine z_getR C qX12_9 dX12_isMaster_3 (fun a_1 => ?_)
  refine z_bipush (v := (76 : Int32)) C dX12_isMaster_6 rfl ?_
  refine z_iaload C dX12_isMaster_8 (fun v_2 => ?_)
  refine z_iconst (v := (1 : Int32)) C dX12_isMaster_9 rfl ?_
  refine z_isub C dX12_isMaster_10 ?_
  refine z_calli (z_runS (As := [.int x1, .int (0 : Int32), .int (v_2 - (1 : Int32))]) (rest := []) C mX12_76 (kX12_isIn N h x1 (0 : Int32) (v_2 - (1 : Int32))) (Nat.le_of_ble_eq_true rfl) ⟨Nat.zero_le _, Nat.zero_le _⟩ dX12_isMaster_11 rfl rfl (Nat.le_of_ble_eq_true rfl)) rfl (fun v_4 h_3 => ?_)
  exact z_zreturn C ⟨rfl, rfl⟩ dX12_isMaster_14
def fX12_isFact (N : Nat) (h : AH) (x0 : Int32) : Option (Int32 × AH) :=
  zcall (fX12_isIn N h x0 (0 : Int32) (7 : Int32)) fun v_2 h_1 =>
  zret .boolean v_2 h_1
theorem kX12_isFact {l : Launch} {g : zG} (N : Nat) (h : AH) (x0 : Int32) : zM l g yX12_isFact cX12_isFact 1 (some .boolean) (2) 0 0 (fun v : Int32 => some (.int v)) (fX12_isFact N h x0) h [.int x0] := by
  refine zM.of (lv0 := [(0, .int x0)]) (by decide) (Nat.le_of_ble_eq_true rfl) rfl (fun X hX C => ?_)
  subst hX
  unfold fX12_isFact
  refine z_iload_n C 0 dX12_isFact_0 rfl ?_
  refine z_iconst (v := (0 : Int32)) C dX12_isFact_1 rfl ?_
  refine z_bipush (v := (7 : Int32)) C dX12_isFact_2 rfl ?_
  refine z_calli (z_runS (As := [.int x0, .int (0 : Int32), .int (7 : Int32)]) (rest := []) C mX12_76 (kX12_isIn N h x0 (0 : Int32) (7 : Int32)) (Nat.le_of_ble_eq_true rfl) ⟨Nat.zero_le _, Nat.zero_le _⟩ dX12_isFact_4 rfl rfl (Nat.le_of_ble_eq_true rfl)) rfl (fun v_2 h_1 => ?_)
  exact z_zreturn C ⟨rfl, rfl⟩ dX12_isFact_7
def fX12_isSet (N : Nat) (h : AH) (x0 : Int32) : Option (Int32 × AH) :=
  zcall (fX12_isIn N h x0 (0 : Int32) (255 : Int32)) fun v_2 h_1 =>
  zret .boolean v_2 h_1
theorem kX12_isSet {l : Launch} {g : zG} (N : Nat) (h : AH) (x0 : Int32) : zM l g yX12_isSet cX12_isSet 1 (some .boolean) (2) 0 0 (fun v : Int32 => some (.int v)) (fX12_isSet N h x0) h [.int x0] := by
  refine zM.of (lv0 := [(0, .int x0)]) (by decide) (Nat.le_of_ble_eq_true rfl) rfl (fun X hX C => ?_)
  subst hX
  unfold fX12_isSet
  refine z_iload_n C 0 dX12_isSet_0 rfl ?_
  refine z_iconst (v := (0 : Int32)) C dX12_isSet_1 rfl ?_
  refine z_sipush (v := (255 : Int32)) C dX12_isSet_2 rfl ?_
  refine z_calli (z_runS (As := [.int x0, .int (0 : Int32), .int (255 : Int32)]) (rest := []) C mX12_76 (kX12_isIn N h x0 (0 : Int32) (255 : Int32)) (Nat.le_of_ble_eq_true rfl) ⟨Nat.zero_le _, Nat.zero_le _⟩ dX12_isSet_5 rfl rfl (Nat.le_of_ble_eq_true rfl)) rfl (fun v_2 h_1 => ?_)
  exact z_zreturn C ⟨rfl, rfl⟩ dX12_isSet_8
def fX12_kind (N : Nat) (h : AH) (a0 : Nat) (x1 : Int32) : Option (Int32 × AH) :=
  (zgR h a0 12 0).bind fun a_1 =>
  (zald 0 h a_1 ((7 : Int32) * x1)).bind fun v_2 =>
  some (v_2, h)
theorem kX12_kind {l : Launch} {g : zG} (N : Nat) (h : AH) (a0 : Nat) (x1 : Int32) : zM l g yX12_kind cX12_kind 2 (some .int) (1) 0 0 (fun v : Int32 => some (.int v)) (fX12_kind N h a0 x1) h [.ref a0, .int x1] := by
  refine zM.of (lv0 := [(0, .ref a0), (1, .int x1)]) (by decide) (Nat.le_of_ble_eq_true rfl) rfl (fun X hX C => ?_)
  subst hX
  unfold fX12_kind
  refine z_aload_n C 0 dX12_kind_0 rfl ?_
  refine z_getR C qX12_9 dX12_kind_1 (fun a_1 => ?_)
  refine z_bipush (v := (7 : Int32)) C dX12_kind_4 rfl ?_
  refine z_iload_n C 1 dX12_kind_6 rfl ?_
  refine z_imul C dX12_kind_7 ?_
  refine z_iaload C dX12_kind_8 (fun v_2 => ?_)
  exact z_ireturn C ⟨rfl, rfl⟩ dX12_kind_9
def fX12_v (N : Nat) (h : AH) (a0 : Nat) (x1 : Int32) : Option (Int32 × AH) :=
  (zgR h a0 12 0).bind fun a_1 =>
  (zald 0 h a_1 (((7 : Int32) * x1) + (1 : Int32))).bind fun v_2 =>
  some (v_2, h)
theorem kX12_v {l : Launch} {g : zG} (N : Nat) (h : AH) (a0 : Nat) (x1 : Int32) : zM l g yX12_v cX12_v 2 (some .int) (1) 0 0 (fun v : Int32 => some (.int v)) (fX12_v N h a0 x1) h [.ref a0, .int x1] := by
  refine zM.of (lv0 := [(0, .ref a0), (1, .int x1)]) (by decide) (Nat.le_of_ble_eq_true rfl) rfl (fun X hX C => ?_)
  subst hX
  unfold fX12_v
  refine z_aload_n C 0 dX12_v_0 rfl ?_
  refine z_getR C qX12_9 dX12_v_1 (fun a_1 => ?_)
  refine z_bipush (v := (7 : Int32)) C dX12_v_4 rfl ?_
  refine z_iload_n C 1 dX12_v_6 rfl ?_
  refine z_imul C dX12_v_7 ?_
  refine z_iconst (v := (1 : Int32)) C dX12_v_8 rfl ?_
  refine z_iadd C dX12_v_9 ?_
  refine z_iaload C dX12_v_10 (fun v_2 => ?_)
  exact z_ireturn C ⟨rfl, rfl⟩ dX12_v_11
def fX12_mindOf (N : Nat) (h : AH) (a0 : Nat) (x1 : Int32) : Option (Int32 × AH) :=
  (zgR h a0 12 0).bind fun a_1 =>
  (zald 0 h a_1 (((7 : Int32) * x1) + (2 : Int32))).bind fun v_2 =>
  some (v_2, h)
theorem kX12_mindOf {l : Launch} {g : zG} (N : Nat) (h : AH) (a0 : Nat) (x1 : Int32) : zM l g yX12_mindOf cX12_mindOf 2 (some .int) (1) 0 0 (fun v : Int32 => some (.int v)) (fX12_mindOf N h a0 x1) h [.ref a0, .int x1] := by
  refine zM.of (lv0 := [(0, .ref a0), (1, .int x1)]) (by decide) (Nat.le_of_ble_eq_true rfl) rfl (fun X hX C => ?_)
  subst hX
  unfold fX12_mindOf
  refine z_aload_n C 0 dX12_mindOf_0 rfl ?_
  refine z_getR C qX12_9 dX12_mindOf_1 (fun a_1 => ?_)
  refine z_bipush (v := (7 : Int32)) C dX12_mindOf_4 rfl ?_
  refine z_iload_n C 1 dX12_mindOf_6 rfl ?_
  refine z_imul C dX12_mindOf_7 ?_
  refine z_iconst (v := (2 : Int32)) C dX12_mindOf_8 rfl ?_
  refine z_iadd C dX12_mindOf_9 ?_
  refine z_iaload C dX12_mindOf_10 (fun v_2 => ?_)
  exact z_ireturn C ⟨rfl, rfl⟩ dX12_mindOf_11
def bX12_many_4 (N : Nat) (r4 : AH → Int32 → Int32 → Int32 → Option (Int32 × AH)) (h : AH) (x0 : Int32) (x1 : Int32) (x2 : Int32) : Option (Int32 × AH) :=
  (if (8 : Int32) ≤ x2 then
  some (x1, h)
  else
  znm (x1 + ((x0 >>> (x2 &&& 31)) &&& (1 : Int32))) fun y_1 =>
  r4 h x0 y_1 (x2 + (1 : Int32)))
theorem tX12_many_4 {X : zX} {g : zG} (C : zC X g yX12_many cX12_many 3 1 0 0 (some .int)) (N : Nat) (n : Nat) : ∀ (h : AH) (x0 : Int32) (x1 : Int32) (x2 : Int32), ZZ X g 3 (0, 0, 0, 0) (fun v : Int32 => some (.int v)) (zfix (fun _ _ _ _ => none) (bX12_many_4 N) n h x0 x1 x2) h 4 [(0, .int x0), (1, .int x1), (2, .int x2)] [] := by
  induction n with
  | zero => intro h x0 x1 x2; exact z_none
  | succ n hr4 =>
    intro h x0 x1 x2
    show ZZ X g 3 (0, 0, 0, 0) _ (bX12_many_4 N (zfix (fun _ _ _ _ => none) (bX12_many_4 N) n) h x0 x1 x2) h 4 _ _
    unfold bX12_many_4
    refine z_iload_n C 2 dX12_many_4 rfl ?_
    refine z_bipush (v := (8 : Int32)) C dX12_many_5 rfl ?_
    refine z_icmpge C 24 dX12_many_7 rfl ?_ ?_
    · refine z_iload_n C 1 dX12_many_24 rfl ?_
      exact z_ireturn C ⟨rfl, rfl⟩ dX12_many_25
    · refine z_iload_n C 1 dX12_many_10 rfl ?_
      refine z_iload_n C 0 dX12_many_11 rfl ?_
      refine z_iload_n C 2 dX12_many_12 rfl ?_
      refine z_ishr C dX12_many_13 ?_
      refine z_iconst (v := (1 : Int32)) C dX12_many_14 rfl ?_
      refine z_iand C dX12_many_15 ?_
      refine z_iadd C dX12_many_16 ?_
      refine z_nmI (fun y_1 => ?_)
      refine z_istore_n C dX12_many_17 [(1, .int y_1), (0, .int x0), (2, .int x2)] (by decide) rfl ?_
      refine z_iinc (v := x2 + (1 : Int32)) C 2 dX12_many_18 [(2, .int (x2 + (1 : Int32))), (1, .int y_1), (0, .int x0)] rfl rfl (by decide) rfl ?_
      refine z_goto C 4 dX12_many_21 rfl ?_
      exact z_lv _ [2, 1, 0] rfl (hr4 _ x0 y_1 (x2 + (1 : Int32)))
def fX12_many (N : Nat) (h : AH) (x0 : Int32) : Option (Int32 × AH) :=
  zfix (fun _ _ _ _ => none) (bX12_many_4 N) N h x0 (0 : Int32) (0 : Int32)
theorem kX12_many {l : Launch} {g : zG} (N : Nat) (h : AH) (x0 : Int32) : zM l g yX12_many cX12_many 3 (some .int) (1) 0 0 (fun v : Int32 => some (.int v)) (fX12_many N h x0) h [.int x0] := by
  refine zM.of (lv0 := [(0, .int x0)]) (by decide) (Nat.le_of_ble_eq_true rfl) rfl (fun X hX C => ?_)
  subst hX
  unfold fX12_many
  refine z_iconst (v := (0 : Int32)) C dX12_many_0 rfl ?_
  refine z_istore_n C dX12_many_1 [(1, .int (0 : Int32)), (0, .int x0)] (by decide) rfl ?_
  refine z_iconst (v := (0 : Int32)) C dX12_many_2 rfl ?_
  refine z_istore_n C dX12_many_3 [(2, .int (0 : Int32)), (1, .int (0 : Int32)), (0, .int x0)] (by decide) rfl ?_
  exact z_lv _ [2, 1, 0] rfl (tX12_many_4 C N N _ x0 (0 : Int32) (0 : Int32))
def bX12_master_45 (N : Nat) (r45 : AH → Nat → Int32 → Int32 → Int32 → Int32 → Option (Int32 × AH)) (h : AH) (a0 : Nat) (x1 : Int32) (x2 : Int32) (x3 : Int32) (x4 : Int32) : Option (Int32 × AH) :=
  (if (7 : Int32) ≤ x4 then
  (zgR h a0 12 0).bind fun a_1 =>
  (zast 0 h a_1 ((7 : Int32) * x3) x1).bind fun h_2 =>
  (zgR h_2 a0 12 0).bind fun a_3 =>
  (zast 0 h_2 a_3 (((7 : Int32) * x3) + (1 : Int32)) x2).bind fun h_4 =>
  (zgR h_4 a0 12 0).bind fun a_5 =>
  (zald 0 h_4 a_5 (76 : Int32)).bind fun v_6 =>
  (zast 0 h_4 a_5 (76 : Int32) (v_6 + (1 : Int32))).bind fun h_7 =>
  some (x3, h_7)
  else
  (zgR h a0 12 0).bind fun a_8 =>
  (zast 0 h a_8 (((7 : Int32) * x3) + x4) (0 : Int32)).bind fun h_9 =>
  r45 h_9 a0 x1 x2 x3 (x4 + (1 : Int32)))
theorem tX12_master_45 {X : zX} {g : zG} (C : zC X g yX12_master cX12_master 5 2 0 0 (some .int)) (N : Nat) (n : Nat) : ∀ (h : AH) (a0 : Nat) (x1 : Int32) (x2 : Int32) (x3 : Int32) (x4 : Int32), ZZ X g 5 (0, 0, 0, 0) (fun v : Int32 => some (.int v)) (zfix (fun _ _ _ _ _ _ => none) (bX12_master_45 N) n h a0 x1 x2 x3 x4) h 45 [(0, .ref a0), (1, .int x1), (2, .int x2), (3, .int x3), (4, .int x4)] [] := by
  induction n with
  | zero => intro h a0 x1 x2 x3 x4; exact z_none
  | succ n hr45 =>
    intro h a0 x1 x2 x3 x4
    show ZZ X g 5 (0, 0, 0, 0) _ (bX12_master_45 N (zfix (fun _ _ _ _ _ _ => none) (bX12_master_45 N) n) h a0 x1 x2 x3 x4) h 45 _ _
    unfold bX12_master_45
    refine z_iload C 4 dX12_master_45 rfl ?_
    refine z_bipush (v := (7 : Int32)) C dX12_master_47 rfl ?_
    refine z_icmpge C 71 dX12_master_49 rfl ?_ ?_
    · refine z_aload_n C 0 dX12_master_71 rfl ?_
      refine z_getR C qX12_9 dX12_master_72 (fun a_1 => ?_)
      refine z_bipush (v := (7 : Int32)) C dX12_master_75 rfl ?_
      refine z_iload_n C 3 dX12_master_77 rfl ?_
      refine z_imul C dX12_master_78 ?_
      refine z_iload_n C 1 dX12_master_79 rfl ?_
      refine z_iastore C dX12_master_80 (fun h_2 => ?_)
      refine z_aload_n C 0 dX12_master_81 rfl ?_
      refine z_getR C qX12_9 dX12_master_82 (fun a_3 => ?_)
      refine z_bipush (v := (7 : Int32)) C dX12_master_85 rfl ?_
      refine z_iload_n C 3 dX12_master_87 rfl ?_
      refine z_imul C dX12_master_88 ?_
      refine z_iconst (v := (1 : Int32)) C dX12_master_89 rfl ?_
      refine z_iadd C dX12_master_90 ?_
      refine z_iload_n C 2 dX12_master_91 rfl ?_
      refine z_iastore C dX12_master_92 (fun h_4 => ?_)
      refine z_aload_n C 0 dX12_master_93 rfl ?_
      refine z_getR C qX12_9 dX12_master_94 (fun a_5 => ?_)
      refine z_bipush (v := (76 : Int32)) C dX12_master_97 rfl ?_
      refine z_dup2 C dX12_master_99 rfl rfl ?_
      refine z_iaload C dX12_master_100 (fun v_6 => ?_)
      refine z_iconst (v := (1 : Int32)) C dX12_master_101 rfl ?_
      refine z_iadd C dX12_master_102 ?_
      refine z_iastore C dX12_master_103 (fun h_7 => ?_)
      refine z_iload_n C 3 dX12_master_104 rfl ?_
      exact z_ireturn C ⟨rfl, rfl⟩ dX12_master_105
    · refine z_aload_n C 0 dX12_master_52 rfl ?_
      refine z_getR C qX12_9 dX12_master_53 (fun a_8 => ?_)
      refine z_bipush (v := (7 : Int32)) C dX12_master_56 rfl ?_
      refine z_iload_n C 3 dX12_master_58 rfl ?_
      refine z_imul C dX12_master_59 ?_
      refine z_iload C 4 dX12_master_60 rfl ?_
      refine z_iadd C dX12_master_62 ?_
      refine z_iconst (v := (0 : Int32)) C dX12_master_63 rfl ?_
      refine z_iastore C dX12_master_64 (fun h_9 => ?_)
      refine z_iinc (v := x4 + (1 : Int32)) C 4 dX12_master_65 [(4, .int (x4 + (1 : Int32))), (0, .ref a0), (1, .int x1), (2, .int x2), (3, .int x3)] rfl rfl (by decide) rfl ?_
      refine z_goto C 45 dX12_master_68 rfl ?_
      exact z_lv _ [1, 2, 3, 4, 0] rfl (hr45 _ a0 x1 x2 x3 (x4 + (1 : Int32)))
def fX12_master (N : Nat) (h : AH) (a0 : Nat) (x1 : Int32) (x2 : Int32) : Option (Int32 × AH) :=
  zcall (fX12_isIn N h x1 (0 : Int32) (6 : Int32)) fun v_2 h_1 =>
  (if v_2 = (0) then
  some ((-1 : Int32), h_1)
  else
  zcall (fX12_isIn N h_1 x2 (0 : Int32) (9 : Int32)) fun v_4 h_3 =>
  (if v_4 = (0) then
  some ((-2 : Int32), h_3)
  else
  (zgR h_3 a0 12 0).bind fun a_5 =>
  (zald 0 h_3 a_5 (76 : Int32)).bind fun v_6 =>
  (if v_6 = (6 : Int32) then
  some ((-4 : Int32), h_3)
  else
  zfix (fun _ _ _ _ _ _ => none) (bX12_master_45 N) N h_3 a0 x1 x2 v_6 (0 : Int32))))
theorem kX12_master {l : Launch} {g : zG} (N : Nat) (h : AH) (a0 : Nat) (x1 : Int32) (x2 : Int32) : zM l g yX12_master cX12_master 5 (some .int) (2) 0 0 (fun v : Int32 => some (.int v)) (fX12_master N h a0 x1 x2) h [.ref a0, .int x1, .int x2] := by
  refine zM.of (lv0 := [(0, .ref a0), (1, .int x1), (2, .int x2)]) (by decide) (Nat.le_of_ble_eq_true rfl) rfl (fun X hX C => ?_)
  subst hX
  unfold fX12_master
  refine z_iload_n C 1 dX12_master_0 rfl ?_
  refine z_iconst (v := (0 : Int32)) C dX12_master_1 rfl ?_
  refine z_bipush (v := (6 : Int32)) C dX12_master_2 rfl ?_
  refine z_calli (z_runS (As := [.int x1, .int (0 : Int32), .int (6 : Int32)]) (rest := []) C mX12_76 (kX12_isIn N h x1 (0 : Int32) (6 : Int32)) (Nat.le_of_ble_eq_true rfl) ⟨Nat.zero_le _, Nat.zero_le _⟩ dX12_master_4 rfl rfl (Nat.le_of_ble_eq_true rfl)) rfl (fun v_2 h_1 => ?_)
  refine z_ifne C 12 dX12_master_7 rfl ?_ ?_
  · refine z_iload_n C 2 dX12_master_12 rfl ?_
    refine z_iconst (v := (0 : Int32)) C dX12_master_13 rfl ?_
    refine z_bipush (v := (9 : Int32)) C dX12_master_14 rfl ?_
    refine z_calli (z_runS (As := [.int x2, .int (0 : Int32), .int (9 : Int32)]) (rest := []) C mX12_76 (kX12_isIn N h_1 x2 (0 : Int32) (9 : Int32)) (Nat.le_of_ble_eq_true rfl) ⟨Nat.zero_le _, Nat.zero_le _⟩ dX12_master_16 rfl rfl (Nat.le_of_ble_eq_true rfl)) rfl (fun v_4 h_3 => ?_)
    refine z_ifne C 25 dX12_master_19 rfl ?_ ?_
    · refine z_aload_n C 0 dX12_master_25 rfl ?_
      refine z_getR C qX12_9 dX12_master_26 (fun a_5 => ?_)
      refine z_bipush (v := (76 : Int32)) C dX12_master_29 rfl ?_
      refine z_iaload C dX12_master_31 (fun v_6 => ?_)
      refine z_istore_n C dX12_master_32 [(3, .int v_6), (0, .ref a0), (1, .int x1), (2, .int x2)] (by decide) rfl ?_
      refine z_iload_n C 0 dX12_master_33 rfl ?_
      refine z_bipush (v := (6 : Int32)) C dX12_master_34 rfl ?_
      refine z_icmpne C 42 dX12_master_36 rfl ?_ ?_
      · refine z_iconst (v := (0 : Int32)) C dX12_master_42 rfl ?_
        refine z_istore C dX12_master_43 [(4, .int (0 : Int32)), (3, .int v_6), (0, .ref a0), (1, .int x1), (2, .int x2)] (by decide) rfl ?_
        exact z_lv _ [2, 3, 4, 1, 0] rfl (tX12_master_45 C N N _ a0 x1 x2 v_6 (0 : Int32))
      · refine z_bipush (v := (-4 : Int32)) C dX12_master_39 rfl ?_
        exact z_ireturn C ⟨rfl, rfl⟩ dX12_master_41
    · refine z_bipush (v := (-2 : Int32)) C dX12_master_22 rfl ?_
      exact z_ireturn C ⟨rfl, rfl⟩ dX12_master_24
  · refine z_iconst (v := (-1 : Int32)) C dX12_master_10 rfl ?_
    exact z_ireturn C ⟨rfl, rfl⟩ dX12_master_11
def fX12_isAt (N : Nat) (h : AH) (a0 : Nat) (x1 : Int32) : Option (Int32 × AH) :=
  (zgI h a0 12 12).bind fun v_1 =>
  (if v_1 = (0) then
  zret .boolean (0 : Int32) h
  else
  (zgI h a0 12 11).bind fun v_2 =>
  (zgI h a0 12 10).bind fun v_3 =>
  (if v_3 ≤ v_2 then
  zret .boolean (0 : Int32) h
  else
  (zgR h a0 12 9).bind fun a_4 =>
  (zgI h a0 12 11).bind fun v_5 =>
  (zald 0 h a_4 v_5).bind fun v_6 =>
  (if v_6 = x1 then
  zret .boolean (1 : Int32) h
  else
  zret .boolean (0 : Int32) h)))
theorem kX12_isAt {l : Launch} {g : zG} (N : Nat) (h : AH) (a0 : Nat) (x1 : Int32) : zM l g yX12_isAt cX12_isAt 2 (some .boolean) (1) 0 0 (fun v : Int32 => some (.int v)) (fX12_isAt N h a0 x1) h [.ref a0, .int x1] := by
  refine zM.of (lv0 := [(0, .ref a0), (1, .int x1)]) (by decide) (Nat.le_of_ble_eq_true rfl) rfl (fun X hX C => ?_)
  subst hX
  unfold fX12_isAt
  refine z_aload_n C 0 dX12_isAt_0 rfl ?_
  refine z_getI C qX12_115 dX12_isAt_1 (fun v_1 => ?_)
  refine z_ifeq C 35 dX12_isAt_4 rfl ?_ ?_
  · refine z_iconst (v := (0 : Int32)) C dX12_isAt_35 rfl ?_
    exact z_zreturn C ⟨rfl, rfl⟩ dX12_isAt_36
  · refine z_aload_n C 0 dX12_isAt_7 rfl ?_
    refine z_getI C qX12_118 dX12_isAt_8 (fun v_2 => ?_)
    refine z_aload_n C 0 dX12_isAt_11 rfl ?_
    refine z_getI C qX12_121 dX12_isAt_12 (fun v_3 => ?_)
    refine z_icmpge C 35 dX12_isAt_15 rfl ?_ ?_
    · refine z_iconst (v := (0 : Int32)) C dX12_isAt_35 rfl ?_
      exact z_zreturn C ⟨rfl, rfl⟩ dX12_isAt_36
    · refine z_aload_n C 0 dX12_isAt_18 rfl ?_
      refine z_getR C qX12_30 dX12_isAt_19 (fun a_4 => ?_)
      refine z_aload_n C 0 dX12_isAt_22 rfl ?_
      refine z_getI C qX12_118 dX12_isAt_23 (fun v_5 => ?_)
      refine z_iaload C dX12_isAt_26 (fun v_6 => ?_)
      refine z_iload_n C 1 dX12_isAt_27 rfl ?_
      refine z_icmpne C 35 dX12_isAt_28 rfl ?_ ?_
      · refine z_iconst (v := (0 : Int32)) C dX12_isAt_35 rfl ?_
        exact z_zreturn C ⟨rfl, rfl⟩ dX12_isAt_36
      · refine z_iconst (v := (1 : Int32)) C dX12_isAt_31 rfl ?_
        refine z_goto C 36 dX12_isAt_32 rfl ?_
        exact z_zreturn C ⟨rfl, rfl⟩ dX12_isAt_36
def fX12_takes (N : Nat) (h : AH) (a0 : Nat) (x1 : Int32) : Option (Unit × AH) :=
  (zis h a0 12).bind fun _ =>
  zcall (fX12_isAt N h a0 x1) fun v_2 h_1 =>
  (if v_2 = (0) then
  (zputZ h_1 a0 12 12 (0 : Int32)).bind fun h_4 =>
  some ((), h_4)
  else
  (zgI h_1 a0 12 11).bind fun v_5 =>
  (zput h_1 a0 12 11 (.int (v_5 + (1 : Int32)))).bind fun h_6 =>
  some ((), h_6))
theorem kX12_takes {l : Launch} {g : zG} (N : Nat) (h : AH) (a0 : Nat) (x1 : Int32) : zM l g yX12_takes cX12_takes 2 none (2) 0 0 (fun _ : Unit => none) (fX12_takes N h a0 x1) h [.ref a0, .int x1] := by
  refine zM.of (lv0 := [(0, .ref a0), (1, .int x1)]) (by decide) (Nat.le_of_ble_eq_true rfl) rfl (fun X hX C => ?_)
  subst hX
  unfold fX12_takes
  refine z_aload_n C 0 dX12_takes_0 rfl ?_
  refine z_iload_n C 1 dX12_takes_1 rfl ?_
  refine z_bind (fun _ q_3 => ?_)
  refine z_calli (z_runV (As := [.int x1]) (rest := []) C mX12_124 (kX12_isAt N h a0 x1) q_3 (Nat.le_of_ble_eq_true rfl) ⟨Nat.zero_le _, Nat.zero_le _⟩ dX12_takes_2 rfl rfl (Nat.le_of_ble_eq_true rfl)) rfl (fun v_2 h_1 => ?_)
  refine z_ifeq C 21 dX12_takes_5 rfl ?_ ?_
  · refine z_aload_n C 0 dX12_takes_21 rfl ?_
    refine z_iconst (v := (0 : Int32)) C dX12_takes_22 rfl ?_
    refine z_putZ C pX12_115 dX12_takes_23 (fun h_4 => ?_)
    exact z_return C ⟨rfl, rfl⟩ dX12_takes_26
  · refine z_aload_n C 0 dX12_takes_8 rfl ?_
    refine z_dup C dX12_takes_9 rfl ?_
    refine z_getI C qX12_118 dX12_takes_10 (fun v_5 => ?_)
    refine z_iconst (v := (1 : Int32)) C dX12_takes_13 rfl ?_
    refine z_iadd C dX12_takes_14 ?_
    refine z_putI C pX12_118 dX12_takes_15 (fun h_6 => ?_)
    refine z_goto C 26 dX12_takes_18 rfl ?_
    exact z_return C ⟨rfl, rfl⟩ dX12_takes_26
def fX12_isDigit (N : Nat) (h : AH) (a0 : Nat) : Option (Int32 × AH) :=
  (zgI h a0 12 12).bind fun v_1 =>
  (if v_1 = (0) then
  zret .boolean (0 : Int32) h
  else
  (zgI h a0 12 11).bind fun v_2 =>
  (zgI h a0 12 10).bind fun v_3 =>
  (if v_3 ≤ v_2 then
  zret .boolean (0 : Int32) h
  else
  (zgR h a0 12 9).bind fun a_4 =>
  (zgI h a0 12 11).bind fun v_5 =>
  (zald 0 h a_4 v_5).bind fun v_6 =>
  (if v_6 < (48 : Int32) then
  zret .boolean (0 : Int32) h
  else
  (zgR h a0 12 9).bind fun a_7 =>
  (zgI h a0 12 11).bind fun v_8 =>
  (zald 0 h a_7 v_8).bind fun v_9 =>
  (if (57 : Int32) < v_9 then
  zret .boolean (0 : Int32) h
  else
  zret .boolean (1 : Int32) h))))
theorem kX12_isDigit {l : Launch} {g : zG} (N : Nat) (h : AH) (a0 : Nat) : zM l g yX12_isDigit cX12_isDigit 1 (some .boolean) (1) 0 0 (fun v : Int32 => some (.int v)) (fX12_isDigit N h a0) h [.ref a0] := by
  refine zM.of (lv0 := [(0, .ref a0)]) (by decide) (Nat.le_of_ble_eq_true rfl) rfl (fun X hX C => ?_)
  subst hX
  unfold fX12_isDigit
  refine z_aload_n C 0 dX12_isDigit_0 rfl ?_
  refine z_getI C qX12_115 dX12_isDigit_1 (fun v_1 => ?_)
  refine z_ifeq C 50 dX12_isDigit_4 rfl ?_ ?_
  · refine z_iconst (v := (0 : Int32)) C dX12_isDigit_50 rfl ?_
    exact z_zreturn C ⟨rfl, rfl⟩ dX12_isDigit_51
  · refine z_aload_n C 0 dX12_isDigit_7 rfl ?_
    refine z_getI C qX12_118 dX12_isDigit_8 (fun v_2 => ?_)
    refine z_aload_n C 0 dX12_isDigit_11 rfl ?_
    refine z_getI C qX12_121 dX12_isDigit_12 (fun v_3 => ?_)
    refine z_icmpge C 50 dX12_isDigit_15 rfl ?_ ?_
    · refine z_iconst (v := (0 : Int32)) C dX12_isDigit_50 rfl ?_
      exact z_zreturn C ⟨rfl, rfl⟩ dX12_isDigit_51
    · refine z_aload_n C 0 dX12_isDigit_18 rfl ?_
      refine z_getR C qX12_30 dX12_isDigit_19 (fun a_4 => ?_)
      refine z_aload_n C 0 dX12_isDigit_22 rfl ?_
      refine z_getI C qX12_118 dX12_isDigit_23 (fun v_5 => ?_)
      refine z_iaload C dX12_isDigit_26 (fun v_6 => ?_)
      refine z_bipush (v := (48 : Int32)) C dX12_isDigit_27 rfl ?_
      refine z_icmplt C 50 dX12_isDigit_29 rfl ?_ ?_
      · refine z_iconst (v := (0 : Int32)) C dX12_isDigit_50 rfl ?_
        exact z_zreturn C ⟨rfl, rfl⟩ dX12_isDigit_51
      · refine z_aload_n C 0 dX12_isDigit_32 rfl ?_
        refine z_getR C qX12_30 dX12_isDigit_33 (fun a_7 => ?_)
        refine z_aload_n C 0 dX12_isDigit_36 rfl ?_
        refine z_getI C qX12_118 dX12_isDigit_37 (fun v_8 => ?_)
        refine z_iaload C dX12_isDigit_40 (fun v_9 => ?_)
        refine z_bipush (v := (57 : Int32)) C dX12_isDigit_41 rfl ?_
        refine z_icmpgt C 50 dX12_isDigit_43 rfl ?_ ?_
        · refine z_iconst (v := (0 : Int32)) C dX12_isDigit_50 rfl ?_
          exact z_zreturn C ⟨rfl, rfl⟩ dX12_isDigit_51
        · refine z_iconst (v := (1 : Int32)) C dX12_isDigit_46 rfl ?_
          refine z_goto C 51 dX12_isDigit_47 rfl ?_
          exact z_zreturn C ⟨rfl, rfl⟩ dX12_isDigit_51
def fX12_number (N : Nat) (h : AH) (a0 : Nat) : Option (Int32 × AH) :=
  (zis h a0 12).bind fun _ =>
  zcall (fX12_isDigit N h a0) fun v_2 h_1 =>
  (if v_2 = (0) then
  (zputZ h_1 a0 12 12 (0 : Int32)).bind fun h_19 =>
  some ((0 : Int32), h_19)
  else
  (zgR h_1 a0 12 9).bind fun a_4 =>
  (zgI h_1 a0 12 11).bind fun v_5 =>
  (zald 0 h_1 a_4 v_5).bind fun v_6 =>
  znm (v_6 - (48 : Int32)) fun y_7 =>
  (zgI h_1 a0 12 11).bind fun v_8 =>
  (zput h_1 a0 12 11 (.int (v_8 + (1 : Int32)))).bind fun h_9 =>
  (zis h_9 a0 12).bind fun _ =>
  zcall (fX12_isDigit N h_9 a0) fun v_11 h_10 =>
  (if v_11 = (0) then
  some (y_7, h_10)
  else
  (zgR h_10 a0 12 9).bind fun a_13 =>
  (zgI h_10 a0 12 11).bind fun v_14 =>
  (zald 0 h_10 a_13 v_14).bind fun v_15 =>
  znm ((((10 : Int32) * y_7) + v_15) - (48 : Int32)) fun y_16 =>
  (zgI h_10 a0 12 11).bind fun v_17 =>
  (zput h_10 a0 12 11 (.int (v_17 + (1 : Int32)))).bind fun h_18 =>
  some (y_16, h_18)))
theorem kX12_number {l : Launch} {g : zG} (N : Nat) (h : AH) (a0 : Nat) : zM l g yX12_number cX12_number 2 (some .int) (2) 0 0 (fun v : Int32 => some (.int v)) (fX12_number N h a0) h [.ref a0] := by
  refine zM.of (lv0 := [(0, .ref a0)]) (by decide) (Nat.le_of_ble_eq_true rfl) rfl (fun X hX C => ?_)
  subst hX
  unfold fX12_number
  refine z_aload_n C 0 dX12_number_0 rfl ?_
  refine z_bind (fun _ q_3 => ?_)
  refine z_calli (z_runV (As := []) (rest := []) C mX12_127 (kX12_isDigit N h a0) q_3 (Nat.le_of_ble_eq_true rfl) ⟨Nat.zero_le _, Nat.zero_le _⟩ dX12_number_1 rfl rfl (Nat.le_of_ble_eq_true rfl)) rfl (fun v_2 h_1 => ?_)
  refine z_ifne C 14 dX12_number_4 rfl ?_ ?_
  · refine z_aload_n C 0 dX12_number_14 rfl ?_
    refine z_getR C qX12_30 dX12_number_15 (fun a_4 => ?_)
    refine z_aload_n C 0 dX12_number_18 rfl ?_
    refine z_getI C qX12_118 dX12_number_19 (fun v_5 => ?_)
    refine z_iaload C dX12_number_22 (fun v_6 => ?_)
    refine z_bipush (v := (48 : Int32)) C dX12_number_23 rfl ?_
    refine z_isub C dX12_number_25 ?_
    refine z_nmI (fun y_7 => ?_)
    refine z_istore_n C dX12_number_26 [(1, .int y_7), (0, .ref a0)] (by decide) rfl ?_
    refine z_aload_n C 1 dX12_number_27 rfl ?_
    refine z_dup C dX12_number_28 rfl ?_
    refine z_getI C qX12_118 dX12_number_29 (fun v_8 => ?_)
    refine z_iconst (v := (1 : Int32)) C dX12_number_32 rfl ?_
    refine z_iadd C dX12_number_33 ?_
    refine z_putI C pX12_118 dX12_number_34 (fun h_9 => ?_)
    refine z_aload_n C 1 dX12_number_37 rfl ?_
    refine z_bind (fun _ q_12 => ?_)
    refine z_calli (z_runV (As := []) (rest := []) C mX12_127 (kX12_isDigit N h_9 a0) q_12 (Nat.le_of_ble_eq_true rfl) ⟨Nat.zero_le _, Nat.zero_le _⟩ dX12_number_38 rfl rfl (Nat.le_of_ble_eq_true rfl)) rfl (fun v_11 h_10 => ?_)
    refine z_ifeq C 72 dX12_number_41 rfl ?_ ?_
    · refine z_iload_n C 0 dX12_number_72 rfl ?_
      exact z_ireturn C ⟨rfl, rfl⟩ dX12_number_73
    · refine z_bipush (v := (10 : Int32)) C dX12_number_44 rfl ?_
      refine z_iload_n C 0 dX12_number_46 rfl ?_
      refine z_imul C dX12_number_47 ?_
      refine z_aload_n C 1 dX12_number_48 rfl ?_
      refine z_getR C qX12_30 dX12_number_49 (fun a_13 => ?_)
      refine z_aload_n C 1 dX12_number_52 rfl ?_
      refine z_getI C qX12_118 dX12_number_53 (fun v_14 => ?_)
      refine z_iaload C dX12_number_56 (fun v_15 => ?_)
      refine z_iadd C dX12_number_57 ?_
      refine z_bipush (v := (48 : Int32)) C dX12_number_58 rfl ?_
      refine z_isub C dX12_number_60 ?_
      refine z_nmI (fun y_16 => ?_)
      refine z_istore_n C dX12_number_61 [(1, .int y_16), (0, .ref a0)] (by decide) rfl ?_
      refine z_aload_n C 1 dX12_number_62 rfl ?_
      refine z_dup C dX12_number_63 rfl ?_
      refine z_getI C qX12_118 dX12_number_64 (fun v_17 => ?_)
      refine z_iconst (v := (1 : Int32)) C dX12_number_67 rfl ?_
      refine z_iadd C dX12_number_68 ?_
      refine z_putI C pX12_118 dX12_number_69 (fun h_18 => ?_)
      refine z_iload_n C 0 dX12_number_72 rfl ?_
      exact z_ireturn C ⟨rfl, rfl⟩ dX12_number_73
  · refine z_aload_n C 0 dX12_number_7 rfl ?_
    refine z_iconst (v := (0 : Int32)) C dX12_number_8 rfl ?_
    refine z_putZ C pX12_115 dX12_number_9 (fun h_19 => ?_)
    refine z_iconst (v := (0 : Int32)) C dX12_number_12 rfl ?_
    exact z_ireturn C ⟨rfl, rfl⟩ dX12_number_13
def bX12_test_106 (N : Nat) (h : AH) (a0 : Nat) (x1 : Int32) (x2 : Int32) (s0 : Nat) (s1 : Int32) : Option (Int32 × AH) :=
  (zis h s0 12).bind fun _ =>
  zcall (fX12_takes N h s0 s1) fun _ h_1 =>
  (zis h_1 a0 12).bind fun _ =>
  zcall (fX12_number N h_1 a0) fun v_4 h_3 =>
  (if (0) ≤ x2 then
  (if x2 ≤ (0) then
  (zgR h_3 a0 12 16).bind fun a_6 =>
  (zald 0 h_3 a_6 x1).bind fun v_7 =>
  (if v_7 = v_4 then
  zret .boolean (1 : Int32) h_3
  else
  zret .boolean (0 : Int32) h_3)
  else
  (zgR h_3 a0 12 16).bind fun a_8 =>
  (zald 0 h_3 a_8 x1).bind fun v_9 =>
  (if v_9 ≤ v_4 then
  zret .boolean (0 : Int32) h_3
  else
  zret .boolean (1 : Int32) h_3))
  else
  (zgR h_3 a0 12 16).bind fun a_10 =>
  (zald 0 h_3 a_10 x1).bind fun v_11 =>
  (if v_4 ≤ v_11 then
  zret .boolean (0 : Int32) h_3
  else
  zret .boolean (1 : Int32) h_3))
theorem tX12_test_106 {X : zX} {g : zG} (C : zC X g yX12_test cX12_test 4 3 0 0 (some .boolean)) (N : Nat) (h : AH) (a0 : Nat) (x1 : Int32) (x2 : Int32) (s0 : Nat) (s1 : Int32) : ZZ X g 4 (0, 0, 0, 0) (fun v : Int32 => some (.int v)) (bX12_test_106 N h a0 x1 x2 s0 s1) h 106 [(0, .ref a0), (1, .int x1), (2, .int x2)] [.int s1, .ref s0] := by
  unfold bX12_test_106
  refine z_bind (fun _ q_2 => ?_)
  refine z_callv (z_runV (As := [.int s1]) (rest := []) C mX12_131 (kX12_takes N h s0 s1) q_2 (Nat.le_of_ble_eq_true rfl) ⟨Nat.zero_le _, Nat.zero_le _⟩ dX12_test_106 rfl rfl (Nat.le_of_ble_eq_true rfl)) rfl (fun _ h_1 => ?_)
  refine z_aload_n C 0 dX12_test_109 rfl ?_
  refine z_bind (fun _ q_5 => ?_)
  refine z_calli (z_runV (As := []) (rest := []) C mX12_135 (kX12_number N h_1 a0) q_5 (Nat.le_of_ble_eq_true rfl) ⟨Nat.zero_le _, Nat.zero_le _⟩ dX12_test_110 rfl rfl (Nat.le_of_ble_eq_true rfl)) rfl (fun v_4 h_3 => ?_)
  refine z_istore_n C dX12_test_113 [(3, .int v_4), (0, .ref a0), (1, .int x1), (2, .int x2)] (by decide) rfl ?_
  refine z_iload_n C 3 dX12_test_114 rfl ?_
  refine z_ifge C 136 dX12_test_115 rfl ?_ ?_
  · refine z_iload_n C 3 dX12_test_136 rfl ?_
    refine z_ifle C 158 dX12_test_137 rfl ?_ ?_
    · refine z_aload_n C 1 dX12_test_158 rfl ?_
      refine z_getR C qX12_33 dX12_test_159 (fun a_6 => ?_)
      refine z_iload_n C 2 dX12_test_162 rfl ?_
      refine z_iaload C dX12_test_163 (fun v_7 => ?_)
      refine z_iload_n C 0 dX12_test_164 rfl ?_
      refine z_icmpne C 172 dX12_test_165 rfl ?_ ?_
      · refine z_iconst (v := (0 : Int32)) C dX12_test_172 rfl ?_
        exact z_zreturn C ⟨rfl, rfl⟩ dX12_test_173
      · refine z_iconst (v := (1 : Int32)) C dX12_test_168 rfl ?_
        refine z_goto C 173 dX12_test_169 rfl ?_
        exact z_zreturn C ⟨rfl, rfl⟩ dX12_test_173
    · refine z_aload_n C 1 dX12_test_140 rfl ?_
      refine z_getR C qX12_33 dX12_test_141 (fun a_8 => ?_)
      refine z_iload_n C 2 dX12_test_144 rfl ?_
      refine z_iaload C dX12_test_145 (fun v_9 => ?_)
      refine z_iload_n C 0 dX12_test_146 rfl ?_
      refine z_icmple C 154 dX12_test_147 rfl ?_ ?_
      · refine z_iconst (v := (0 : Int32)) C dX12_test_154 rfl ?_
        refine z_goto C 173 dX12_test_155 rfl ?_
        exact z_zreturn C ⟨rfl, rfl⟩ dX12_test_173
      · refine z_iconst (v := (1 : Int32)) C dX12_test_150 rfl ?_
        refine z_goto C 173 dX12_test_151 rfl ?_
        exact z_zreturn C ⟨rfl, rfl⟩ dX12_test_173
  · refine z_aload_n C 1 dX12_test_118 rfl ?_
    refine z_getR C qX12_33 dX12_test_119 (fun a_10 => ?_)
    refine z_iload_n C 2 dX12_test_122 rfl ?_
    refine z_iaload C dX12_test_123 (fun v_11 => ?_)
    refine z_iload_n C 0 dX12_test_124 rfl ?_
    refine z_icmpge C 132 dX12_test_125 rfl ?_ ?_
    · refine z_iconst (v := (0 : Int32)) C dX12_test_132 rfl ?_
      refine z_goto C 173 dX12_test_133 rfl ?_
      exact z_zreturn C ⟨rfl, rfl⟩ dX12_test_173
    · refine z_iconst (v := (1 : Int32)) C dX12_test_128 rfl ?_
      refine z_goto C 173 dX12_test_129 rfl ?_
      exact z_zreturn C ⟨rfl, rfl⟩ dX12_test_173
def bX12_test_84 (N : Nat) (h : AH) (a0 : Nat) (x1 : Int32) (s0 : Int32) : Option (Int32 × AH) :=
  (if (0) ≤ s0 then
  (if s0 ≤ (0) then
  bX12_test_106 N h a0 x1 s0 a0 (61 : Int32)
  else
  bX12_test_106 N h a0 x1 s0 a0 (62 : Int32))
  else
  bX12_test_106 N h a0 x1 s0 a0 (60 : Int32))
theorem tX12_test_84 {X : zX} {g : zG} (C : zC X g yX12_test cX12_test 4 3 0 0 (some .boolean)) (N : Nat) (h : AH) (a0 : Nat) (x1 : Int32) (s0 : Int32) : ZZ X g 4 (0, 0, 0, 0) (fun v : Int32 => some (.int v)) (bX12_test_84 N h a0 x1 s0) h 84 [(0, .ref a0), (1, .int x1)] [.int s0] := by
  unfold bX12_test_84
  refine z_istore_n C dX12_test_84 [(2, .int s0), (0, .ref a0), (1, .int x1)] (by decide) rfl ?_
  refine z_aload_n C 1 dX12_test_85 rfl ?_
  refine z_iload_n C 0 dX12_test_86 rfl ?_
  refine z_ifge C 95 dX12_test_87 rfl ?_ ?_
  · refine z_iload_n C 0 dX12_test_95 rfl ?_
    refine z_ifle C 104 dX12_test_96 rfl ?_ ?_
    · refine z_bipush (v := (61 : Int32)) C dX12_test_104 rfl ?_
      exact z_lv _ [1, 2, 0] rfl (tX12_test_106 C N _ a0 x1 s0 a0 (61 : Int32))
    · refine z_bipush (v := (62 : Int32)) C dX12_test_99 rfl ?_
      refine z_goto C 106 dX12_test_101 rfl ?_
      exact z_lv _ [1, 2, 0] rfl (tX12_test_106 C N _ a0 x1 s0 a0 (62 : Int32))
  · refine z_bipush (v := (60 : Int32)) C dX12_test_90 rfl ?_
    refine z_goto C 106 dX12_test_92 rfl ?_
    exact z_lv _ [1, 2, 0] rfl (tX12_test_106 C N _ a0 x1 s0 a0 (60 : Int32))
def bX12_test_4 (N : Nat) (r4 : AH → Nat → Int32 → Int32 → Option (Int32 × AH)) (h : AH) (a0 : Nat) (x1 : Int32) (x2 : Int32) : Option (Int32 × AH) :=
  (if (6 : Int32) ≤ x2 then
  (if x1 = (-1 : Int32) then
  (zputZ h a0 12 12 (0 : Int32)).bind fun h_9 =>
  zret .boolean (0 : Int32) h_9
  else
  (zgI h a0 12 11).bind fun v_1 =>
  (zput h a0 12 11 (.int (v_1 + (1 : Int32)))).bind fun h_2 =>
  (zis h_2 a0 12).bind fun _ =>
  zcall (fX12_isAt N h_2 a0 (60 : Int32)) fun v_4 h_3 =>
  (if v_4 = (0) then
  (zis h_3 a0 12).bind fun _ =>
  zcall (fX12_isAt N h_3 a0 (62 : Int32)) fun v_7 h_6 =>
  (if v_7 = (0) then
  bX12_test_84 N h_6 a0 x1 (0 : Int32)
  else
  bX12_test_84 N h_6 a0 x1 (1 : Int32))
  else
  bX12_test_84 N h_3 a0 x1 (-1 : Int32)))
  else
  (zgR h a0 12 17).bind fun a_10 =>
  (zald 2 h a_10 x2).bind fun v_11 =>
  (zis h a0 12).bind fun _ =>
  zcall (fX12_isAt N h a0 v_11) fun v_13 h_12 =>
  (if v_13 = (0) then
  r4 h_12 a0 x1 (x2 + (1 : Int32))
  else
  r4 h_12 a0 x2 (x2 + (1 : Int32))))
theorem tX12_test_4 {X : zX} {g : zG} (C : zC X g yX12_test cX12_test 4 3 0 0 (some .boolean)) (N : Nat) (n : Nat) : ∀ (h : AH) (a0 : Nat) (x1 : Int32) (x2 : Int32), ZZ X g 4 (0, 0, 0, 0) (fun v : Int32 => some (.int v)) (zfix (fun _ _ _ _ => none) (bX12_test_4 N) n h a0 x1 x2) h 4 [(0, .ref a0), (1, .int x1), (2, .int x2)] [] := by
  induction n with
  | zero => intro h a0 x1 x2; exact z_none
  | succ n hr4 =>
    intro h a0 x1 x2
    show ZZ X g 4 (0, 0, 0, 0) _ (bX12_test_4 N (zfix (fun _ _ _ _ => none) (bX12_test_4 N) n) h a0 x1 x2) h 4 _ _
    unfold bX12_test_4
    refine z_iload_n C 2 dX12_test_4 rfl ?_
    refine z_bipush (v := (6 : Int32)) C dX12_test_5 rfl ?_
    refine z_icmpge C 35 dX12_test_7 rfl ?_ ?_
    · refine z_iload_n C 1 dX12_test_35 rfl ?_
      refine z_iconst (v := (-1 : Int32)) C dX12_test_36 rfl ?_
      refine z_icmpne C 47 dX12_test_37 rfl ?_ ?_
      · refine z_aload_n C 0 dX12_test_47 rfl ?_
        refine z_dup C dX12_test_48 rfl ?_
        refine z_getI C qX12_118 dX12_test_49 (fun v_1 => ?_)
        refine z_iconst (v := (1 : Int32)) C dX12_test_52 rfl ?_
        refine z_iadd C dX12_test_53 ?_
        refine z_putI C pX12_118 dX12_test_54 (fun h_2 => ?_)
        refine z_aload_n C 0 dX12_test_57 rfl ?_
        refine z_bipush (v := (60 : Int32)) C dX12_test_58 rfl ?_
        refine z_bind (fun _ q_5 => ?_)
        refine z_calli (z_runV (As := [.int (60 : Int32)]) (rest := []) C mX12_124 (kX12_isAt N h_2 a0 (60 : Int32)) q_5 (Nat.le_of_ble_eq_true rfl) ⟨Nat.zero_le _, Nat.zero_le _⟩ dX12_test_60 rfl rfl (Nat.le_of_ble_eq_true rfl)) rfl (fun v_4 h_3 => ?_)
        refine z_ifeq C 70 dX12_test_63 rfl ?_ ?_
        · refine z_aload_n C 0 dX12_test_70 rfl ?_
          refine z_bipush (v := (62 : Int32)) C dX12_test_71 rfl ?_
          refine z_bind (fun _ q_8 => ?_)
          refine z_calli (z_runV (As := [.int (62 : Int32)]) (rest := []) C mX12_124 (kX12_isAt N h_3 a0 (62 : Int32)) q_8 (Nat.le_of_ble_eq_true rfl) ⟨Nat.zero_le _, Nat.zero_le _⟩ dX12_test_73 rfl rfl (Nat.le_of_ble_eq_true rfl)) rfl (fun v_7 h_6 => ?_)
          refine z_ifeq C 83 dX12_test_76 rfl ?_ ?_
          · refine z_iconst (v := (0 : Int32)) C dX12_test_83 rfl ?_
            exact z_lv _ [0, 1] rfl (tX12_test_84 C N _ a0 x1 (0 : Int32))
          · refine z_iconst (v := (1 : Int32)) C dX12_test_79 rfl ?_
            refine z_goto C 84 dX12_test_80 rfl ?_
            exact z_lv _ [0, 1] rfl (tX12_test_84 C N _ a0 x1 (1 : Int32))
        · refine z_iconst (v := (-1 : Int32)) C dX12_test_66 rfl ?_
          refine z_goto C 84 dX12_test_67 rfl ?_
          exact z_lv _ [0, 1] rfl (tX12_test_84 C N _ a0 x1 (-1 : Int32))
      · refine z_aload_n C 0 dX12_test_40 rfl ?_
        refine z_iconst (v := (0 : Int32)) C dX12_test_41 rfl ?_
        refine z_putZ C pX12_115 dX12_test_42 (fun h_9 => ?_)
        refine z_iconst (v := (0 : Int32)) C dX12_test_45 rfl ?_
        exact z_zreturn C ⟨rfl, rfl⟩ dX12_test_46
    · refine z_aload_n C 0 dX12_test_10 rfl ?_
      refine z_aload_n C 0 dX12_test_11 rfl ?_
      refine z_getR C qX12_36 dX12_test_12 (fun a_10 => ?_)
      refine z_iload_n C 2 dX12_test_15 rfl ?_
      refine z_caload C dX12_test_16 (fun v_11 => ?_)
      refine z_bind (fun _ q_14 => ?_)
      refine z_calli (z_runV (As := [.int v_11]) (rest := []) C mX12_124 (kX12_isAt N h a0 v_11) q_14 (Nat.le_of_ble_eq_true rfl) ⟨Nat.zero_le _, Nat.zero_le _⟩ dX12_test_17 rfl rfl (Nat.le_of_ble_eq_true rfl)) rfl (fun v_13 h_12 => ?_)
      refine z_ifeq C 27 dX12_test_20 rfl ?_ ?_
      · refine z_iload_n C 1 dX12_test_27 rfl ?_
        refine z_istore_n C dX12_test_28 [(1, .int x1), (0, .ref a0), (2, .int x2)] (by decide) rfl ?_
        refine z_iinc (v := x2 + (1 : Int32)) C 2 dX12_test_29 [(2, .int (x2 + (1 : Int32))), (1, .int x1), (0, .ref a0)] rfl rfl (by decide) rfl ?_
        refine z_goto C 4 dX12_test_32 rfl ?_
        exact z_lv _ [2, 1, 0] rfl (hr4 _ a0 x1 (x2 + (1 : Int32)))
      · refine z_iload_n C 2 dX12_test_23 rfl ?_
        refine z_goto C 28 dX12_test_24 rfl ?_
        refine z_istore_n C dX12_test_28 [(1, .int x2), (0, .ref a0), (2, .int x2)] (by decide) rfl ?_
        refine z_iinc (v := x2 + (1 : Int32)) C 2 dX12_test_29 [(2, .int (x2 + (1 : Int32))), (1, .int x2), (0, .ref a0)] rfl rfl (by decide) rfl ?_
        refine z_goto C 4 dX12_test_32 rfl ?_
        exact z_lv _ [2, 1, 0] rfl (hr4 _ a0 x2 (x2 + (1 : Int32)))
def fX12_test (N : Nat) (h : AH) (a0 : Nat) : Option (Int32 × AH) :=
  zfix (fun _ _ _ _ => none) (bX12_test_4 N) N h a0 (-1 : Int32) (0 : Int32)
theorem kX12_test {l : Launch} {g : zG} (N : Nat) (h : AH) (a0 : Nat) : zM l g yX12_test cX12_test 4 (some .boolean) (3) 0 0 (fun v : Int32 => some (.int v)) (fX12_test N h a0) h [.ref a0] := by
  refine zM.of (lv0 := [(0, .ref a0)]) (by decide) (Nat.le_of_ble_eq_true rfl) rfl (fun X hX C => ?_)
  subst hX
  unfold fX12_test
  refine z_iconst (v := (-1 : Int32)) C dX12_test_0 rfl ?_
  refine z_istore_n C dX12_test_1 [(1, .int (-1 : Int32)), (0, .ref a0)] (by decide) rfl ?_
  refine z_iconst (v := (0 : Int32)) C dX12_test_2 rfl ?_
  refine z_istore_n C dX12_test_3 [(2, .int (0 : Int32)), (1, .int (-1 : Int32)), (0, .ref a0)] (by decide) rfl ?_
  exact z_lv _ [2, 1, 0] rfl (tX12_test_4 C N N _ a0 (-1 : Int32) (0 : Int32))
def bX12_both_5 (N : Nat) (rF : AH → Nat → Option (Int32 × AH)) (r5 : AH → Nat → Int32 → Option (Int32 × AH)) (h : AH) (a0 : Nat) (x1 : Int32) : Option (Int32 × AH) :=
  (zis h a0 12).bind fun _ =>
  zcall (fX12_isAt N h a0 (38 : Int32)) fun v_2 h_1 =>
  (if v_2 = (0) then
  zret .boolean x1 h_1
  else
  (zgI h_1 a0 12 11).bind fun v_4 =>
  (zput h_1 a0 12 11 (.int (v_4 + (1 : Int32)))).bind fun h_5 =>
  (zis h_5 a0 12).bind fun _ =>
  zcall (rF h_5 a0) fun v_7 h_6 =>
  (if x1 = (0) then
  r5 h_6 a0 (0 : Int32)
  else
  (if v_7 = (0) then
  r5 h_6 a0 (0 : Int32)
  else
  r5 h_6 a0 (1 : Int32))))
theorem tX12_both_5 {X : zX} {g : zG} {lev : Nat} (hlev : 2 ≤ lev) (C : zC X g yX12_both cX12_both 3 lev 0 0 (some .boolean)) (N : Nat) {rF : AH → Nat → Option (Int32 × AH)} {lv_rF : Nat} (le_rF : lv_rF + 1 ≤ lev) (hm_rF : ∀ (h : AH) (a : Nat), zM X.2.1 g yX12_factor cX12_factor 2 (some .boolean) lv_rF 0 0 (fun v : Int32 => some (.int v)) (rF h a) h [.ref a]) (n : Nat) : ∀ (h : AH) (a0 : Nat) (x1 : Int32), ZZ X g 3 (0, 0, 0, 0) (fun v : Int32 => some (.int v)) (zfix (fun _ _ _ => none) (bX12_both_5 N rF) n h a0 x1) h 5 [(0, .ref a0), (1, .int x1)] [] := by
  induction n with
  | zero => intro h a0 x1; exact z_none
  | succ n hr5 =>
    intro h a0 x1
    show ZZ X g 3 (0, 0, 0, 0) _ (bX12_both_5 N rF (zfix (fun _ _ _ => none) (bX12_both_5 N rF) n) h a0 x1) h 5 _ _
    unfold bX12_both_5
    refine z_aload_n C 0 dX12_both_5 rfl ?_
    refine z_bipush (v := (38 : Int32)) C dX12_both_6 rfl ?_
    refine z_bind (fun _ q_3 => ?_)
    refine z_calli (z_runV (As := [.int (38 : Int32)]) (rest := []) C mX12_124 (kX12_isAt N h a0 (38 : Int32)) q_3 (by omega) ⟨Nat.zero_le _, Nat.zero_le _⟩ dX12_both_8 rfl rfl (Nat.le_of_ble_eq_true rfl)) rfl (fun v_2 h_1 => ?_)
    refine z_ifeq C 46 dX12_both_11 rfl ?_ ?_
    · refine z_iload_n C 1 dX12_both_46 rfl ?_
      exact z_zreturn C ⟨rfl, rfl⟩ dX12_both_47
    · refine z_aload_n C 0 dX12_both_14 rfl ?_
      refine z_dup C dX12_both_15 rfl ?_
      refine z_getI C qX12_118 dX12_both_16 (fun v_4 => ?_)
      refine z_iconst (v := (1 : Int32)) C dX12_both_19 rfl ?_
      refine z_iadd C dX12_both_20 ?_
      refine z_putI C pX12_118 dX12_both_21 (fun h_5 => ?_)
      refine z_aload_n C 0 dX12_both_24 rfl ?_
      refine z_bind (fun _ q_8 => ?_)
      refine z_calli (z_runV (As := []) (rest := []) C mX12_142 (hm_rF h_5 a0) q_8 le_rF ⟨Nat.zero_le _, Nat.zero_le _⟩ dX12_both_25 rfl rfl (Nat.le_of_ble_eq_true rfl)) rfl (fun v_7 h_6 => ?_)
      refine z_istore_n C dX12_both_28 [(2, .int v_7), (0, .ref a0), (1, .int x1)] (by decide) rfl ?_
      refine z_iload_n C 2 dX12_both_29 rfl ?_
      refine z_ifeq C 41 dX12_both_30 rfl ?_ ?_
      · refine z_iconst (v := (0 : Int32)) C dX12_both_41 rfl ?_
        refine z_istore_n C dX12_both_42 [(1, .int (0 : Int32)), (2, .int v_7), (0, .ref a0)] (by decide) rfl ?_
        refine z_goto C 5 dX12_both_43 rfl ?_
        exact z_lv _ [2, 0] rfl (hr5 _ a0 (0 : Int32))
      · refine z_iload_n C 0 dX12_both_33 rfl ?_
        refine z_ifeq C 41 dX12_both_34 rfl ?_ ?_
        · refine z_iconst (v := (0 : Int32)) C dX12_both_41 rfl ?_
          refine z_istore_n C dX12_both_42 [(1, .int (0 : Int32)), (2, .int v_7), (0, .ref a0)] (by decide) rfl ?_
          refine z_goto C 5 dX12_both_43 rfl ?_
          exact z_lv _ [2, 0] rfl (hr5 _ a0 (0 : Int32))
        · refine z_iconst (v := (1 : Int32)) C dX12_both_37 rfl ?_
          refine z_goto C 42 dX12_both_38 rfl ?_
          refine z_istore_n C dX12_both_42 [(1, .int (1 : Int32)), (2, .int v_7), (0, .ref a0)] (by decide) rfl ?_
          refine z_goto C 5 dX12_both_43 rfl ?_
          exact z_lv _ [2, 0] rfl (hr5 _ a0 (1 : Int32))
def fX12_both (N : Nat) (rF : AH → Nat → Option (Int32 × AH)) (h : AH) (a0 : Nat) : Option (Int32 × AH) :=
  (zis h a0 12).bind fun _ =>
  zcall (rF h a0) fun v_2 h_1 =>
  zfix (fun _ _ _ => none) (bX12_both_5 N rF) N h_1 a0 v_2
theorem kX12_both {l : Launch} {g : zG} {lev : Nat} (hlev : 2 ≤ lev) (N : Nat) {rF : AH → Nat → Option (Int32 × AH)} {lv_rF : Nat} (le_rF : lv_rF + 1 ≤ lev) (hm_rF : ∀ (h : AH) (a : Nat), zM l g yX12_factor cX12_factor 2 (some .boolean) lv_rF 0 0 (fun v : Int32 => some (.int v)) (rF h a) h [.ref a]) (h : AH) (a0 : Nat) : zM l g yX12_both cX12_both 3 (some .boolean) lev 0 0 (fun v : Int32 => some (.int v)) (fX12_both N rF h a0) h [.ref a0] := by
  refine zM.of (lv0 := [(0, .ref a0)]) (by decide) (Nat.le_of_ble_eq_true rfl) rfl (fun X hX C => ?_)
  subst hX
  unfold fX12_both
  refine z_aload_n C 0 dX12_both_0 rfl ?_
  refine z_bind (fun _ q_3 => ?_)
  refine z_calli (z_runV (As := []) (rest := []) C mX12_142 (hm_rF h a0) q_3 le_rF ⟨Nat.zero_le _, Nat.zero_le _⟩ dX12_both_1 rfl rfl (Nat.le_of_ble_eq_true rfl)) rfl (fun v_2 h_1 => ?_)
  refine z_istore_n C dX12_both_4 [(1, .int v_2), (0, .ref a0)] (by decide) rfl ?_
  exact z_lv _ [1, 0] rfl (tX12_both_5 hlev C N le_rF hm_rF N _ a0 v_2)
def bX12_any_5 (N : Nat) (rB : AH → Nat → Option (Int32 × AH)) (r5 : AH → Nat → Int32 → Option (Int32 × AH)) (h : AH) (a0 : Nat) (x1 : Int32) : Option (Int32 × AH) :=
  (zis h a0 12).bind fun _ =>
  zcall (fX12_isAt N h a0 (124 : Int32)) fun v_2 h_1 =>
  (if v_2 = (0) then
  zret .boolean x1 h_1
  else
  (zgI h_1 a0 12 11).bind fun v_4 =>
  (zput h_1 a0 12 11 (.int (v_4 + (1 : Int32)))).bind fun h_5 =>
  (zis h_5 a0 12).bind fun _ =>
  zcall (rB h_5 a0) fun v_7 h_6 =>
  (if x1 = (0) then
  (if v_7 = (0) then
  r5 h_6 a0 (0 : Int32)
  else
  r5 h_6 a0 (1 : Int32))
  else
  r5 h_6 a0 (1 : Int32)))
theorem tX12_any_5 {X : zX} {g : zG} {lev : Nat} (hlev : 2 ≤ lev) (C : zC X g yX12_any cX12_any 3 lev 0 0 (some .boolean)) (N : Nat) {rB : AH → Nat → Option (Int32 × AH)} {lv_rB : Nat} (le_rB : lv_rB + 1 ≤ lev) (hm_rB : ∀ (h : AH) (a : Nat), zM X.2.1 g yX12_both cX12_both 3 (some .boolean) lv_rB 0 0 (fun v : Int32 => some (.int v)) (rB h a) h [.ref a]) (n : Nat) : ∀ (h : AH) (a0 : Nat) (x1 : Int32), ZZ X g 3 (0, 0, 0, 0) (fun v : Int32 => some (.int v)) (zfix (fun _ _ _ => none) (bX12_any_5 N rB) n h a0 x1) h 5 [(0, .ref a0), (1, .int x1)] [] := by
  induction n with
  | zero => intro h a0 x1; exact z_none
  | succ n hr5 =>
    intro h a0 x1
    show ZZ X g 3 (0, 0, 0, 0) _ (bX12_any_5 N rB (zfix (fun _ _ _ => none) (bX12_any_5 N rB) n) h a0 x1) h 5 _ _
    unfold bX12_any_5
    refine z_aload_n C 0 dX12_any_5 rfl ?_
    refine z_bipush (v := (124 : Int32)) C dX12_any_6 rfl ?_
    refine z_bind (fun _ q_3 => ?_)
    refine z_calli (z_runV (As := [.int (124 : Int32)]) (rest := []) C mX12_124 (kX12_isAt N h a0 (124 : Int32)) q_3 (by omega) ⟨Nat.zero_le _, Nat.zero_le _⟩ dX12_any_8 rfl rfl (Nat.le_of_ble_eq_true rfl)) rfl (fun v_2 h_1 => ?_)
    refine z_ifeq C 46 dX12_any_11 rfl ?_ ?_
    · refine z_iload_n C 1 dX12_any_46 rfl ?_
      exact z_zreturn C ⟨rfl, rfl⟩ dX12_any_47
    · refine z_aload_n C 0 dX12_any_14 rfl ?_
      refine z_dup C dX12_any_15 rfl ?_
      refine z_getI C qX12_118 dX12_any_16 (fun v_4 => ?_)
      refine z_iconst (v := (1 : Int32)) C dX12_any_19 rfl ?_
      refine z_iadd C dX12_any_20 ?_
      refine z_putI C pX12_118 dX12_any_21 (fun h_5 => ?_)
      refine z_aload_n C 0 dX12_any_24 rfl ?_
      refine z_bind (fun _ q_8 => ?_)
      refine z_calli (z_runV (As := []) (rest := []) C mX12_151 (hm_rB h_5 a0) q_8 le_rB ⟨Nat.zero_le _, Nat.zero_le _⟩ dX12_any_25 rfl rfl (Nat.le_of_ble_eq_true rfl)) rfl (fun v_7 h_6 => ?_)
      refine z_istore_n C dX12_any_28 [(2, .int v_7), (0, .ref a0), (1, .int x1)] (by decide) rfl ?_
      refine z_iload_n C 2 dX12_any_29 rfl ?_
      refine z_ifne C 37 dX12_any_30 rfl ?_ ?_
      · refine z_iconst (v := (1 : Int32)) C dX12_any_37 rfl ?_
        refine z_goto C 42 dX12_any_38 rfl ?_
        refine z_istore_n C dX12_any_42 [(1, .int (1 : Int32)), (2, .int v_7), (0, .ref a0)] (by decide) rfl ?_
        refine z_goto C 5 dX12_any_43 rfl ?_
        exact z_lv _ [2, 0] rfl (hr5 _ a0 (1 : Int32))
      · refine z_iload_n C 0 dX12_any_33 rfl ?_
        refine z_ifeq C 41 dX12_any_34 rfl ?_ ?_
        · refine z_iconst (v := (0 : Int32)) C dX12_any_41 rfl ?_
          refine z_istore_n C dX12_any_42 [(1, .int (0 : Int32)), (2, .int v_7), (0, .ref a0)] (by decide) rfl ?_
          refine z_goto C 5 dX12_any_43 rfl ?_
          exact z_lv _ [2, 0] rfl (hr5 _ a0 (0 : Int32))
        · refine z_iconst (v := (1 : Int32)) C dX12_any_37 rfl ?_
          refine z_goto C 42 dX12_any_38 rfl ?_
          refine z_istore_n C dX12_any_42 [(1, .int (1 : Int32)), (2, .int v_7), (0, .ref a0)] (by decide) rfl ?_
          refine z_goto C 5 dX12_any_43 rfl ?_
          exact z_lv _ [2, 0] rfl (hr5 _ a0 (1 : Int32))
def fX12_any (N : Nat) (rB : AH → Nat → Option (Int32 × AH)) (h : AH) (a0 : Nat) : Option (Int32 × AH) :=
  (zis h a0 12).bind fun _ =>
  zcall (rB h a0) fun v_2 h_1 =>
  zfix (fun _ _ _ => none) (bX12_any_5 N rB) N h_1 a0 v_2
theorem kX12_any {l : Launch} {g : zG} {lev : Nat} (hlev : 2 ≤ lev) (N : Nat) {rB : AH → Nat → Option (Int32 × AH)} {lv_rB : Nat} (le_rB : lv_rB + 1 ≤ lev) (hm_rB : ∀ (h : AH) (a : Nat), zM l g yX12_both cX12_both 3 (some .boolean) lv_rB 0 0 (fun v : Int32 => some (.int v)) (rB h a) h [.ref a]) (h : AH) (a0 : Nat) : zM l g yX12_any cX12_any 3 (some .boolean) lev 0 0 (fun v : Int32 => some (.int v)) (fX12_any N rB h a0) h [.ref a0] := by
  refine zM.of (lv0 := [(0, .ref a0)]) (by decide) (Nat.le_of_ble_eq_true rfl) rfl (fun X hX C => ?_)
  subst hX
  unfold fX12_any
  refine z_aload_n C 0 dX12_any_0 rfl ?_
  refine z_bind (fun _ q_3 => ?_)
  refine z_calli (z_runV (As := []) (rest := []) C mX12_151 (hm_rB h a0) q_3 le_rB ⟨Nat.zero_le _, Nat.zero_le _⟩ dX12_any_1 rfl rfl (Nat.le_of_ble_eq_true rfl)) rfl (fun v_2 h_1 => ?_)
  refine z_istore_n C dX12_any_4 [(1, .int v_2), (0, .ref a0)] (by decide) rfl ?_
  exact z_lv _ [1, 0] rfl (tX12_any_5 hlev C N le_rB hm_rB N _ a0 v_2)
def bX12_factor_63 (N : Nat) (rF : AH → Nat → Option (Int32 × AH)) (rA : AH → Nat → Option (Int32 × AH)) (h : AH) (a0 : Nat) : Option (Int32 × AH) :=
  (zgI h a0 12 13).bind fun v_1 =>
  (if (4 : Int32) ≤ v_1 then
  (zis h a0 12).bind fun _ =>
  zcall (fX12_test N h a0) fun v_3 h_2 =>
  zret .boolean v_3 h_2
  else
  (zis h a0 12).bind fun _ =>
  zcall (fX12_isAt N h a0 (40 : Int32)) fun v_6 h_5 =>
  (if v_6 = (0) then
  (zis h_5 a0 12).bind fun _ =>
  zcall (fX12_test N h_5 a0) fun v_9 h_8 =>
  zret .boolean v_9 h_8
  else
  (zgI h_5 a0 12 11).bind fun v_11 =>
  (zput h_5 a0 12 11 (.int (v_11 + (1 : Int32)))).bind fun h_12 =>
  (zgI h_12 a0 12 13).bind fun v_13 =>
  (zput h_12 a0 12 13 (.int (v_13 + (1 : Int32)))).bind fun h_14 =>
  (zis h_14 a0 12).bind fun _ =>
  zcall (rA h_14 a0) fun v_16 h_15 =>
  (zgI h_15 a0 12 13).bind fun v_18 =>
  (zput h_15 a0 12 13 (.int (v_18 - (1 : Int32)))).bind fun h_19 =>
  (zis h_19 a0 12).bind fun _ =>
  zcall (fX12_takes N h_19 a0 (41 : Int32)) fun _ h_20 =>
  zret .boolean v_16 h_20))
theorem tX12_factor_63 {X : zX} {g : zG} {lev : Nat} (hlev : 4 ≤ lev) (C : zC X g yX12_factor cX12_factor 2 lev 0 0 (some .boolean)) (N : Nat) {rF : AH → Nat → Option (Int32 × AH)} {lv_rF : Nat} (le_rF : lv_rF + 1 ≤ lev) (hm_rF : ∀ (h : AH) (a : Nat), zM X.2.1 g yX12_factor cX12_factor 2 (some .boolean) lv_rF 0 0 (fun v : Int32 => some (.int v)) (rF h a) h [.ref a]) {rA : AH → Nat → Option (Int32 × AH)} {lv_rA : Nat} (le_rA : lv_rA + 1 ≤ lev) (hm_rA : ∀ (h : AH) (a : Nat), zM X.2.1 g yX12_any cX12_any 3 (some .boolean) lv_rA 0 0 (fun v : Int32 => some (.int v)) (rA h a) h [.ref a]) (h : AH) (a0 : Nat) : ZZ X g 2 (0, 0, 0, 0) (fun v : Int32 => some (.int v)) (bX12_factor_63 N rF rA h a0) h 63 [(0, .ref a0)] [] := by
  unfold bX12_factor_63
  refine z_aload_n C 0 dX12_factor_63 rfl ?_
  refine z_getI C qX12_139 dX12_factor_64 (fun v_1 => ?_)
  refine z_iconst (v := (4 : Int32)) C dX12_factor_67 rfl ?_
  refine z_icmpge C 124 dX12_factor_68 rfl ?_ ?_
  · refine z_aload_n C 0 dX12_factor_124 rfl ?_
    refine z_bind (fun _ q_4 => ?_)
    refine z_calli (z_runV (As := []) (rest := []) C mX12_148 (kX12_test N h a0) q_4 (by omega) ⟨Nat.zero_le _, Nat.zero_le _⟩ dX12_factor_125 rfl rfl (Nat.le_of_ble_eq_true rfl)) rfl (fun v_3 h_2 => ?_)
    refine z_istore_n C dX12_factor_128 [(1, .int v_3), (0, .ref a0)] (by decide) rfl ?_
    refine z_iload_n C 0 dX12_factor_129 rfl ?_
    exact z_zreturn C ⟨rfl, rfl⟩ dX12_factor_130
  · refine z_aload_n C 0 dX12_factor_71 rfl ?_
    refine z_bipush (v := (40 : Int32)) C dX12_factor_72 rfl ?_
    refine z_bind (fun _ q_7 => ?_)
    refine z_calli (z_runV (As := [.int (40 : Int32)]) (rest := []) C mX12_124 (kX12_isAt N h a0 (40 : Int32)) q_7 (by omega) ⟨Nat.zero_le _, Nat.zero_le _⟩ dX12_factor_74 rfl rfl (Nat.le_of_ble_eq_true rfl)) rfl (fun v_6 h_5 => ?_)
    refine z_ifeq C 124 dX12_factor_77 rfl ?_ ?_
    · refine z_aload_n C 0 dX12_factor_124 rfl ?_
      refine z_bind (fun _ q_10 => ?_)
      refine z_calli (z_runV (As := []) (rest := []) C mX12_148 (kX12_test N h_5 a0) q_10 (by omega) ⟨Nat.zero_le _, Nat.zero_le _⟩ dX12_factor_125 rfl rfl (Nat.le_of_ble_eq_true rfl)) rfl (fun v_9 h_8 => ?_)
      refine z_istore_n C dX12_factor_128 [(1, .int v_9), (0, .ref a0)] (by decide) rfl ?_
      refine z_iload_n C 0 dX12_factor_129 rfl ?_
      exact z_zreturn C ⟨rfl, rfl⟩ dX12_factor_130
    · refine z_aload_n C 0 dX12_factor_80 rfl ?_
      refine z_dup C dX12_factor_81 rfl ?_
      refine z_getI C qX12_118 dX12_factor_82 (fun v_11 => ?_)
      refine z_iconst (v := (1 : Int32)) C dX12_factor_85 rfl ?_
      refine z_iadd C dX12_factor_86 ?_
      refine z_putI C pX12_118 dX12_factor_87 (fun h_12 => ?_)
      refine z_aload_n C 0 dX12_factor_90 rfl ?_
      refine z_dup C dX12_factor_91 rfl ?_
      refine z_getI C qX12_139 dX12_factor_92 (fun v_13 => ?_)
      refine z_iconst (v := (1 : Int32)) C dX12_factor_95 rfl ?_
      refine z_iadd C dX12_factor_96 ?_
      refine z_putI C pX12_139 dX12_factor_97 (fun h_14 => ?_)
      refine z_aload_n C 0 dX12_factor_100 rfl ?_
      refine z_bind (fun _ q_17 => ?_)
      refine z_calli (z_runV (As := []) (rest := []) C mX12_145 (hm_rA h_14 a0) q_17 le_rA ⟨Nat.zero_le _, Nat.zero_le _⟩ dX12_factor_101 rfl rfl (Nat.le_of_ble_eq_true rfl)) rfl (fun v_16 h_15 => ?_)
      refine z_istore_n C dX12_factor_104 [(1, .int v_16), (0, .ref a0)] (by decide) rfl ?_
      refine z_aload_n C 1 dX12_factor_105 rfl ?_
      refine z_dup C dX12_factor_106 rfl ?_
      refine z_getI C qX12_139 dX12_factor_107 (fun v_18 => ?_)
      refine z_iconst (v := (1 : Int32)) C dX12_factor_110 rfl ?_
      refine z_isub C dX12_factor_111 ?_
      refine z_putI C pX12_139 dX12_factor_112 (fun h_19 => ?_)
      refine z_aload_n C 1 dX12_factor_115 rfl ?_
      refine z_bipush (v := (41 : Int32)) C dX12_factor_116 rfl ?_
      refine z_bind (fun _ q_21 => ?_)
      refine z_callv (z_runV (As := [.int (41 : Int32)]) (rest := []) C mX12_131 (kX12_takes N h_19 a0 (41 : Int32)) q_21 (by omega) ⟨Nat.zero_le _, Nat.zero_le _⟩ dX12_factor_118 rfl rfl (Nat.le_of_ble_eq_true rfl)) rfl (fun _ h_20 => ?_)
      refine z_goto C 129 dX12_factor_121 rfl ?_
      refine z_iload_n C 0 dX12_factor_129 rfl ?_
      exact z_zreturn C ⟨rfl, rfl⟩ dX12_factor_130
def bX12_factor_49 (N : Nat) (rF : AH → Nat → Option (Int32 × AH)) (rA : AH → Nat → Option (Int32 × AH)) (h : AH) (a0 : Nat) (s0 : Int32) : Option (Int32 × AH) :=
  (zgI h a0 12 13).bind fun v_1 =>
  (zput h a0 12 13 (.int (v_1 - (1 : Int32)))).bind fun h_2 =>
  zret .boolean s0 h_2
theorem tX12_factor_49 {X : zX} {g : zG} {lev : Nat} (hlev : 4 ≤ lev) (C : zC X g yX12_factor cX12_factor 2 lev 0 0 (some .boolean)) (N : Nat) {rF : AH → Nat → Option (Int32 × AH)} {lv_rF : Nat} (le_rF : lv_rF + 1 ≤ lev) (hm_rF : ∀ (h : AH) (a : Nat), zM X.2.1 g yX12_factor cX12_factor 2 (some .boolean) lv_rF 0 0 (fun v : Int32 => some (.int v)) (rF h a) h [.ref a]) {rA : AH → Nat → Option (Int32 × AH)} {lv_rA : Nat} (le_rA : lv_rA + 1 ≤ lev) (hm_rA : ∀ (h : AH) (a : Nat), zM X.2.1 g yX12_any cX12_any 3 (some .boolean) lv_rA 0 0 (fun v : Int32 => some (.int v)) (rA h a) h [.ref a]) (h : AH) (a0 : Nat) (s0 : Int32) : ZZ X g 2 (0, 0, 0, 0) (fun v : Int32 => some (.int v)) (bX12_factor_49 N rF rA h a0 s0) h 49 [(0, .ref a0)] [.int s0] := by
  unfold bX12_factor_49
  refine z_istore_n C dX12_factor_49 [(1, .int s0), (0, .ref a0)] (by decide) rfl ?_
  refine z_aload_n C 1 dX12_factor_50 rfl ?_
  refine z_dup C dX12_factor_51 rfl ?_
  refine z_getI C qX12_139 dX12_factor_52 (fun v_1 => ?_)
  refine z_iconst (v := (1 : Int32)) C dX12_factor_55 rfl ?_
  refine z_isub C dX12_factor_56 ?_
  refine z_putI C pX12_139 dX12_factor_57 (fun h_2 => ?_)
  refine z_goto C 129 dX12_factor_60 rfl ?_
  refine z_iload_n C 0 dX12_factor_129 rfl ?_
  exact z_zreturn C ⟨rfl, rfl⟩ dX12_factor_130
def fX12_factor (N : Nat) (rF : AH → Nat → Option (Int32 × AH)) (rA : AH → Nat → Option (Int32 × AH)) (h : AH) (a0 : Nat) : Option (Int32 × AH) :=
  (zgI h a0 12 13).bind fun v_1 =>
  (if (4 : Int32) ≤ v_1 then
  bX12_factor_63 N rF rA h a0
  else
  (zis h a0 12).bind fun _ =>
  zcall (fX12_isAt N h a0 (33 : Int32)) fun v_3 h_2 =>
  (if v_3 = (0) then
  bX12_factor_63 N rF rA h_2 a0
  else
  (zgI h_2 a0 12 11).bind fun v_5 =>
  (zput h_2 a0 12 11 (.int (v_5 + (1 : Int32)))).bind fun h_6 =>
  (zgI h_6 a0 12 13).bind fun v_7 =>
  (zput h_6 a0 12 13 (.int (v_7 + (1 : Int32)))).bind fun h_8 =>
  (zis h_8 a0 12).bind fun _ =>
  zcall (rF h_8 a0) fun v_10 h_9 =>
  (if v_10 = (0) then
  bX12_factor_49 N rF rA h_9 a0 (1 : Int32)
  else
  bX12_factor_49 N rF rA h_9 a0 (0 : Int32))))
theorem kX12_factor {l : Launch} {g : zG} {lev : Nat} (hlev : 4 ≤ lev) (N : Nat) {rF : AH → Nat → Option (Int32 × AH)} {lv_rF : Nat} (le_rF : lv_rF + 1 ≤ lev) (hm_rF : ∀ (h : AH) (a : Nat), zM l g yX12_factor cX12_factor 2 (some .boolean) lv_rF 0 0 (fun v : Int32 => some (.int v)) (rF h a) h [.ref a]) {rA : AH → Nat → Option (Int32 × AH)} {lv_rA : Nat} (le_rA : lv_rA + 1 ≤ lev) (hm_rA : ∀ (h : AH) (a : Nat), zM l g yX12_any cX12_any 3 (some .boolean) lv_rA 0 0 (fun v : Int32 => some (.int v)) (rA h a) h [.ref a]) (h : AH) (a0 : Nat) : zM l g yX12_factor cX12_factor 2 (some .boolean) lev 0 0 (fun v : Int32 => some (.int v)) (fX12_factor N rF rA h a0) h [.ref a0] := by
  refine zM.of (lv0 := [(0, .ref a0)]) (by decide) (Nat.le_of_ble_eq_true rfl) rfl (fun X hX C => ?_)
  subst hX
  unfold fX12_factor
  refine z_aload_n C 0 dX12_factor_0 rfl ?_
  refine z_getI C qX12_139 dX12_factor_1 (fun v_1 => ?_)
  refine z_iconst (v := (4 : Int32)) C dX12_factor_4 rfl ?_
  refine z_icmpge C 63 dX12_factor_5 rfl ?_ ?_
  · exact z_lv _ [0] rfl (tX12_factor_63 hlev C N le_rF hm_rF le_rA hm_rA _ a0)
  · refine z_aload_n C 0 dX12_factor_8 rfl ?_
    refine z_bipush (v := (33 : Int32)) C dX12_factor_9 rfl ?_
    refine z_bind (fun _ q_4 => ?_)
    refine z_calli (z_runV (As := [.int (33 : Int32)]) (rest := []) C mX12_124 (kX12_isAt N h a0 (33 : Int32)) q_4 (by omega) ⟨Nat.zero_le _, Nat.zero_le _⟩ dX12_factor_11 rfl rfl (Nat.le_of_ble_eq_true rfl)) rfl (fun v_3 h_2 => ?_)
    refine z_ifeq C 63 dX12_factor_14 rfl ?_ ?_
    · exact z_lv _ [0] rfl (tX12_factor_63 hlev C N le_rF hm_rF le_rA hm_rA _ a0)
    · refine z_aload_n C 0 dX12_factor_17 rfl ?_
      refine z_dup C dX12_factor_18 rfl ?_
      refine z_getI C qX12_118 dX12_factor_19 (fun v_5 => ?_)
      refine z_iconst (v := (1 : Int32)) C dX12_factor_22 rfl ?_
      refine z_iadd C dX12_factor_23 ?_
      refine z_putI C pX12_118 dX12_factor_24 (fun h_6 => ?_)
      refine z_aload_n C 0 dX12_factor_27 rfl ?_
      refine z_dup C dX12_factor_28 rfl ?_
      refine z_getI C qX12_139 dX12_factor_29 (fun v_7 => ?_)
      refine z_iconst (v := (1 : Int32)) C dX12_factor_32 rfl ?_
      refine z_iadd C dX12_factor_33 ?_
      refine z_putI C pX12_139 dX12_factor_34 (fun h_8 => ?_)
      refine z_aload_n C 0 dX12_factor_37 rfl ?_
      refine z_bind (fun _ q_11 => ?_)
      refine z_calli (z_runV (As := []) (rest := []) C mX12_142 (hm_rF h_8 a0) q_11 le_rF ⟨Nat.zero_le _, Nat.zero_le _⟩ dX12_factor_38 rfl rfl (Nat.le_of_ble_eq_true rfl)) rfl (fun v_10 h_9 => ?_)
      refine z_ifne C 48 dX12_factor_41 rfl ?_ ?_
      · refine z_iconst (v := (0 : Int32)) C dX12_factor_48 rfl ?_
        exact z_lv _ [0] rfl (tX12_factor_49 hlev C N le_rF hm_rF le_rA hm_rA _ a0 (0 : Int32))
      · refine z_iconst (v := (1 : Int32)) C dX12_factor_44 rfl ?_
        refine z_goto C 49 dX12_factor_45 rfl ?_
        exact z_lv _ [0] rfl (tX12_factor_49 hlev C N le_rF hm_rF le_rA hm_rA _ a0 (1 : Int32))
def gX12_factor (N d : Nat) : AH → Nat → Option (Int32 × AH) := zfix (fun _ _ => none) (fun r => fX12_factor N r (fX12_any N (fX12_both N r))) d
def gX12_any (N d : Nat) : AH → Nat → Option (Int32 × AH) := fX12_any N (fX12_both N (gX12_factor N d))
def gX12_both (N d : Nat) : AH → Nat → Option (Int32 × AH) := fX12_both N (gX12_factor N d)
theorem kgX12_factor' {l : Launch} {g : zG} (N d : Nat) : ∀ (h : AH) (a : Nat), zM l g yX12_factor cX12_factor 2 (some .boolean) (4 + 3 * d) 0 0 (fun v : Int32 => some (.int v)) (gX12_factor N d h a) h [.ref a] := by
  induction d with
  | zero => intro h a r h' E; cases E
  | succ d ih =>
    intro h a
    exact kX12_factor (by omega) N (lv_rF := (4 + 3 * d + 0)) (by omega) ih (lv_rA := (4 + 3 * d + 2)) (by omega) (fun h a => kX12_any (by omega) N (lv_rB := (4 + 3 * d + 1)) (by omega) (fun h a => kX12_both (by omega) N (lv_rF := (4 + 3 * d + 0)) (by omega) ih h a) h a) h a
theorem kgX12_factor {l : Launch} {g : zG} (N d : Nat) : ∀ (h : AH) (a : Nat), zM l g yX12_factor cX12_factor 2 (some .boolean) (4 + 3 * d) 0 0 (fun v : Int32 => some (.int v)) (gX12_factor N d h a) h [.ref a] := kgX12_factor' N d
theorem kgX12_any {l : Launch} {g : zG} (N d : Nat) : ∀ (h : AH) (a : Nat), zM l g yX12_any cX12_any 3 (some .boolean) (4 + 3 * d + 2) 0 0 (fun v : Int32 => some (.int v)) (gX12_any N d h a) h [.ref a] := fun h a => kX12_any (by omega) N (lv_rB := (4 + 3 * d + 1)) (by omega) (fun h a => kX12_both (by omega) N (lv_rF := (4 + 3 * d + 0)) (by omega) (kgX12_factor' N d) h a) h a
theorem kgX12_both {l : Launch} {g : zG} (N d : Nat) : ∀ (h : AH) (a : Nat), zM l g yX12_both cX12_both 3 (some .boolean) (4 + 3 * d + 1) 0 0 (fun v : Int32 => some (.int v)) (gX12_both N d h a) h [.ref a] := fun h a => kX12_both (by omega) N (lv_rF := (4 + 3 * d + 0)) (by omega) (kgX12_factor' N d) h a
def bX12_clause_85 (N : Nat) (h : AH) (a0 : Nat) (x1 : Int32) : Option (Unit × AH) :=
  (zis h a0 12).bind fun _ =>
  zcall (fX12_takes N h a0 (32 : Int32)) fun _ h_1 =>
  (zis h_1 a0 12).bind fun _ =>
  zcall (fX12_number N h_1 a0) fun v_4 h_3 =>
  (if x1 = (2 : Int32) then
  (zput h_3 a0 12 15 (.int v_4)).bind fun h_16 =>
  some ((), h_16)
  else
  (zis h_3 a0 12).bind fun _ =>
  zcall (fX12_takes N h_3 a0 (32 : Int32)) fun _ h_6 =>
  (zput h_6 a0 12 13 (.int (0 : Int32))).bind fun h_8 =>
  (zis h_8 a0 12).bind fun _ =>
  zcall (gX12_any N 6 h_8 a0) fun v_10 h_9 =>
  (zgI h_9 a0 12 14).bind fun v_12 =>
  (if v_10 = (0) then
  (zput h_9 a0 12 14 (.int (v_12 + (0 : Int32)))).bind fun h_15 =>
  some ((), h_15)
  else
  (if x1 = (0) then
  (zput h_9 a0 12 14 (.int (v_12 + v_4))).bind fun h_14 =>
  some ((), h_14)
  else
  (zput h_9 a0 12 14 (.int (v_12 + (-v_4)))).bind fun h_13 =>
  some ((), h_13))))
theorem tX12_clause_85 {X : zX} {g : zG} (C : zC X g yX12_clause cX12_clause 4 25 0 0 none) (N : Nat) (h : AH) (a0 : Nat) (x1 : Int32) : ZZ X g 4 (0, 0, 0, 0) (fun _ : Unit => none) (bX12_clause_85 N h a0 x1) h 85 [(0, .ref a0), (1, .int x1)] [] := by
  unfold bX12_clause_85
  refine z_aload_n C 0 dX12_clause_85 rfl ?_
  refine z_bipush (v := (32 : Int32)) C dX12_clause_86 rfl ?_
  refine z_bind (fun _ q_2 => ?_)
  refine z_callv (z_runV (As := [.int (32 : Int32)]) (rest := []) C mX12_131 (kX12_takes N h a0 (32 : Int32)) q_2 (Nat.le_of_ble_eq_true rfl) ⟨Nat.zero_le _, Nat.zero_le _⟩ dX12_clause_88 rfl rfl (Nat.le_of_ble_eq_true rfl)) rfl (fun _ h_1 => ?_)
  refine z_aload_n C 0 dX12_clause_91 rfl ?_
  refine z_bind (fun _ q_5 => ?_)
  refine z_calli (z_runV (As := []) (rest := []) C mX12_135 (kX12_number N h_1 a0) q_5 (Nat.le_of_ble_eq_true rfl) ⟨Nat.zero_le _, Nat.zero_le _⟩ dX12_clause_92 rfl rfl (Nat.le_of_ble_eq_true rfl)) rfl (fun v_4 h_3 => ?_)
  refine z_istore_n C dX12_clause_95 [(2, .int v_4), (0, .ref a0), (1, .int x1)] (by decide) rfl ?_
  refine z_iload_n C 2 dX12_clause_96 rfl ?_
  refine z_iconst (v := (2 : Int32)) C dX12_clause_97 rfl ?_
  refine z_icmpne C 107 dX12_clause_98 rfl ?_ ?_
  · refine z_aload_n C 1 dX12_clause_107 rfl ?_
    refine z_bipush (v := (32 : Int32)) C dX12_clause_108 rfl ?_
    refine z_bind (fun _ q_7 => ?_)
    refine z_callv (z_runV (As := [.int (32 : Int32)]) (rest := []) C mX12_131 (kX12_takes N h_3 a0 (32 : Int32)) q_7 (Nat.le_of_ble_eq_true rfl) ⟨Nat.zero_le _, Nat.zero_le _⟩ dX12_clause_110 rfl rfl (Nat.le_of_ble_eq_true rfl)) rfl (fun _ h_6 => ?_)
    refine z_aload_n C 1 dX12_clause_113 rfl ?_
    refine z_iconst (v := (0 : Int32)) C dX12_clause_114 rfl ?_
    refine z_putI C pX12_139 dX12_clause_115 (fun h_8 => ?_)
    refine z_aload_n C 1 dX12_clause_118 rfl ?_
    refine z_bind (fun _ q_11 => ?_)
    refine z_calli (z_runV (As := []) (rest := []) C mX12_145 (kgX12_any N 6 h_8 a0) q_11 (Nat.le_of_ble_eq_true rfl) ⟨Nat.zero_le _, Nat.zero_le _⟩ dX12_clause_119 rfl rfl (Nat.le_of_ble_eq_true rfl)) rfl (fun v_10 h_9 => ?_)
    refine z_istore_n C dX12_clause_122 [(3, .int v_10), (2, .int v_4), (0, .ref a0), (1, .int x1)] (by decide) rfl ?_
    refine z_aload_n C 2 dX12_clause_123 rfl ?_
    refine z_dup C dX12_clause_124 rfl ?_
    refine z_getI C qX12_157 dX12_clause_125 (fun v_12 => ?_)
    refine z_iload_n C 0 dX12_clause_128 rfl ?_
    refine z_ifne C 136 dX12_clause_129 rfl ?_ ?_
    · refine z_iload_n C 3 dX12_clause_136 rfl ?_
      refine z_ifne C 144 dX12_clause_137 rfl ?_ ?_
      · refine z_iload_n C 1 dX12_clause_144 rfl ?_
        refine z_ineg C dX12_clause_145 ?_
        refine z_iadd C dX12_clause_146 ?_
        refine z_putI C pX12_157 dX12_clause_147 (fun h_13 => ?_)
        exact z_return C ⟨rfl, rfl⟩ dX12_clause_150
      · refine z_iload_n C 1 dX12_clause_140 rfl ?_
        refine z_goto C 146 dX12_clause_141 rfl ?_
        refine z_iadd C dX12_clause_146 ?_
        refine z_putI C pX12_157 dX12_clause_147 (fun h_14 => ?_)
        exact z_return C ⟨rfl, rfl⟩ dX12_clause_150
    · refine z_iconst (v := (0 : Int32)) C dX12_clause_132 rfl ?_
      refine z_goto C 146 dX12_clause_133 rfl ?_
      refine z_iadd C dX12_clause_146 ?_
      refine z_putI C pX12_157 dX12_clause_147 (fun h_15 => ?_)
      exact z_return C ⟨rfl, rfl⟩ dX12_clause_150
  · refine z_aload_n C 1 dX12_clause_101 rfl ?_
    refine z_iload_n C 0 dX12_clause_102 rfl ?_
    refine z_putI C pX12_154 dX12_clause_103 (fun h_16 => ?_)
    exact z_return C ⟨rfl, rfl⟩ dX12_clause_106
def bX12_clause_47 (N : Nat) (r47 : AH → Nat → Int32 → Int32 → Option (Unit × AH)) (h : AH) (a0 : Nat) (x1 : Int32) (x2 : Int32) : Option (Unit × AH) :=
  (if (5 : Int32) ≤ x2 then
  bX12_clause_85 N h a0 x1
  else
  (zgR h a0 12 19).bind fun a_1 =>
  (zald 2 h a_1 (((5 : Int32) * x1) + x2)).bind fun v_2 =>
  (if v_2 = (0) then
  bX12_clause_85 N h a0 x1
  else
  (zgR h a0 12 19).bind fun a_3 =>
  (zald 2 h a_3 (((5 : Int32) * x1) + x2)).bind fun v_4 =>
  (zis h a0 12).bind fun _ =>
  zcall (fX12_takes N h a0 v_4) fun _ h_5 =>
  r47 h_5 a0 x1 (x2 + (1 : Int32))))
theorem tX12_clause_47 {X : zX} {g : zG} (C : zC X g yX12_clause cX12_clause 4 25 0 0 none) (N : Nat) (n : Nat) : ∀ (h : AH) (a0 : Nat) (x1 : Int32) (x2 : Int32), ZZ X g 4 (0, 0, 0, 0) (fun _ : Unit => none) (zfix (fun _ _ _ _ => none) (bX12_clause_47 N) n h a0 x1 x2) h 47 [(0, .ref a0), (1, .int x1), (2, .int x2)] [] := by
  induction n with
  | zero => intro h a0 x1 x2; exact z_none
  | succ n hr47 =>
    intro h a0 x1 x2
    show ZZ X g 4 (0, 0, 0, 0) _ (bX12_clause_47 N (zfix (fun _ _ _ _ => none) (bX12_clause_47 N) n) h a0 x1 x2) h 47 _ _
    unfold bX12_clause_47
    refine z_iload_n C 2 dX12_clause_47 rfl ?_
    refine z_iconst (v := (5 : Int32)) C dX12_clause_48 rfl ?_
    refine z_icmpge C 85 dX12_clause_49 rfl ?_ ?_
    · exact z_lv _ [0, 1] rfl (tX12_clause_85 C N _ a0 x1)
    · refine z_aload_n C 0 dX12_clause_52 rfl ?_
      refine z_getR C qX12_43 dX12_clause_53 (fun a_1 => ?_)
      refine z_iconst (v := (5 : Int32)) C dX12_clause_56 rfl ?_
      refine z_iload_n C 1 dX12_clause_57 rfl ?_
      refine z_imul C dX12_clause_58 ?_
      refine z_iload_n C 2 dX12_clause_59 rfl ?_
      refine z_iadd C dX12_clause_60 ?_
      refine z_caload C dX12_clause_61 (fun v_2 => ?_)
      refine z_ifeq C 85 dX12_clause_62 rfl ?_ ?_
      · exact z_lv _ [0, 1] rfl (tX12_clause_85 C N _ a0 x1)
      · refine z_aload_n C 0 dX12_clause_65 rfl ?_
        refine z_aload_n C 0 dX12_clause_66 rfl ?_
        refine z_getR C qX12_43 dX12_clause_67 (fun a_3 => ?_)
        refine z_iconst (v := (5 : Int32)) C dX12_clause_70 rfl ?_
        refine z_iload_n C 1 dX12_clause_71 rfl ?_
        refine z_imul C dX12_clause_72 ?_
        refine z_iload_n C 2 dX12_clause_73 rfl ?_
        refine z_iadd C dX12_clause_74 ?_
        refine z_caload C dX12_clause_75 (fun v_4 => ?_)
        refine z_bind (fun _ q_6 => ?_)
        refine z_callv (z_runV (As := [.int v_4]) (rest := []) C mX12_131 (kX12_takes N h a0 v_4) q_6 (Nat.le_of_ble_eq_true rfl) ⟨Nat.zero_le _, Nat.zero_le _⟩ dX12_clause_76 rfl rfl (Nat.le_of_ble_eq_true rfl)) rfl (fun _ h_5 => ?_)
        refine z_iinc (v := x2 + (1 : Int32)) C 2 dX12_clause_79 [(2, .int (x2 + (1 : Int32))), (0, .ref a0), (1, .int x1)] rfl rfl (by decide) rfl ?_
        refine z_goto C 47 dX12_clause_82 rfl ?_
        exact z_lv _ [1, 2, 0] rfl (hr47 _ a0 x1 (x2 + (1 : Int32)))
def bX12_clause_4 (N : Nat) (r4 : AH → Nat → Int32 → Int32 → Option (Unit × AH)) (h : AH) (a0 : Nat) (x1 : Int32) (x2 : Int32) : Option (Unit × AH) :=
  (if (3 : Int32) ≤ x2 then
  (if x1 = (-1 : Int32) then
  (zputZ h a0 12 12 (0 : Int32)).bind fun h_1 =>
  some ((), h_1)
  else
  zfix (fun _ _ _ _ => none) (bX12_clause_47 N) N h a0 x1 (0 : Int32))
  else
  (zgR h a0 12 18).bind fun a_2 =>
  (zald 2 h a_2 x2).bind fun v_3 =>
  (zis h a0 12).bind fun _ =>
  zcall (fX12_isAt N h a0 v_3) fun v_5 h_4 =>
  (if v_5 = (0) then
  r4 h_4 a0 x1 (x2 + (1 : Int32))
  else
  r4 h_4 a0 x2 (x2 + (1 : Int32))))
theorem tX12_clause_4 {X : zX} {g : zG} (C : zC X g yX12_clause cX12_clause 4 25 0 0 none) (N : Nat) (n : Nat) : ∀ (h : AH) (a0 : Nat) (x1 : Int32) (x2 : Int32), ZZ X g 4 (0, 0, 0, 0) (fun _ : Unit => none) (zfix (fun _ _ _ _ => none) (bX12_clause_4 N) n h a0 x1 x2) h 4 [(0, .ref a0), (1, .int x1), (2, .int x2)] [] := by
  induction n with
  | zero => intro h a0 x1 x2; exact z_none
  | succ n hr4 =>
    intro h a0 x1 x2
    show ZZ X g 4 (0, 0, 0, 0) _ (bX12_clause_4 N (zfix (fun _ _ _ _ => none) (bX12_clause_4 N) n) h a0 x1 x2) h 4 _ _
    unfold bX12_clause_4
    refine z_iload_n C 2 dX12_clause_4 rfl ?_
    refine z_iconst (v := (3 : Int32)) C dX12_clause_5 rfl ?_
    refine z_icmpge C 34 dX12_clause_6 rfl ?_ ?_
    · refine z_iload_n C 1 dX12_clause_34 rfl ?_
      refine z_iconst (v := (-1 : Int32)) C dX12_clause_35 rfl ?_
      refine z_icmpne C 45 dX12_clause_36 rfl ?_ ?_
      · refine z_iconst (v := (0 : Int32)) C dX12_clause_45 rfl ?_
        refine z_istore_n C dX12_clause_46 [(2, .int (0 : Int32)), (0, .ref a0), (1, .int x1)] (by decide) rfl ?_
        exact z_lv _ [1, 2, 0] rfl (tX12_clause_47 C N N _ a0 x1 (0 : Int32))
      · refine z_aload_n C 0 dX12_clause_39 rfl ?_
        refine z_iconst (v := (0 : Int32)) C dX12_clause_40 rfl ?_
        refine z_putZ C pX12_115 dX12_clause_41 (fun h_1 => ?_)
        exact z_return C ⟨rfl, rfl⟩ dX12_clause_44
    · refine z_aload_n C 0 dX12_clause_9 rfl ?_
      refine z_aload_n C 0 dX12_clause_10 rfl ?_
      refine z_getR C qX12_40 dX12_clause_11 (fun a_2 => ?_)
      refine z_iload_n C 2 dX12_clause_14 rfl ?_
      refine z_caload C dX12_clause_15 (fun v_3 => ?_)
      refine z_bind (fun _ q_6 => ?_)
      refine z_calli (z_runV (As := [.int v_3]) (rest := []) C mX12_124 (kX12_isAt N h a0 v_3) q_6 (Nat.le_of_ble_eq_true rfl) ⟨Nat.zero_le _, Nat.zero_le _⟩ dX12_clause_16 rfl rfl (Nat.le_of_ble_eq_true rfl)) rfl (fun v_5 h_4 => ?_)
      refine z_ifeq C 26 dX12_clause_19 rfl ?_ ?_
      · refine z_iload_n C 1 dX12_clause_26 rfl ?_
        refine z_istore_n C dX12_clause_27 [(1, .int x1), (0, .ref a0), (2, .int x2)] (by decide) rfl ?_
        refine z_iinc (v := x2 + (1 : Int32)) C 2 dX12_clause_28 [(2, .int (x2 + (1 : Int32))), (1, .int x1), (0, .ref a0)] rfl rfl (by decide) rfl ?_
        refine z_goto C 4 dX12_clause_31 rfl ?_
        exact z_lv _ [2, 1, 0] rfl (hr4 _ a0 x1 (x2 + (1 : Int32)))
      · refine z_iload_n C 2 dX12_clause_22 rfl ?_
        refine z_goto C 27 dX12_clause_23 rfl ?_
        refine z_istore_n C dX12_clause_27 [(1, .int x2), (0, .ref a0), (2, .int x2)] (by decide) rfl ?_
        refine z_iinc (v := x2 + (1 : Int32)) C 2 dX12_clause_28 [(2, .int (x2 + (1 : Int32))), (1, .int x2), (0, .ref a0)] rfl rfl (by decide) rfl ?_
        refine z_goto C 4 dX12_clause_31 rfl ?_
        exact z_lv _ [2, 1, 0] rfl (hr4 _ a0 x2 (x2 + (1 : Int32)))
def fX12_clause (N : Nat) (h : AH) (a0 : Nat) : Option (Unit × AH) :=
  zfix (fun _ _ _ _ => none) (bX12_clause_4 N) N h a0 (-1 : Int32) (0 : Int32)
theorem kX12_clause {l : Launch} {g : zG} (N : Nat) (h : AH) (a0 : Nat) : zM l g yX12_clause cX12_clause 4 none (25) 0 0 (fun _ : Unit => none) (fX12_clause N h a0) h [.ref a0] := by
  refine zM.of (lv0 := [(0, .ref a0)]) (by decide) (Nat.le_of_ble_eq_true rfl) rfl (fun X hX C => ?_)
  subst hX
  unfold fX12_clause
  refine z_iconst (v := (-1 : Int32)) C dX12_clause_0 rfl ?_
  refine z_istore_n C dX12_clause_1 [(1, .int (-1 : Int32)), (0, .ref a0)] (by decide) rfl ?_
  refine z_iconst (v := (0 : Int32)) C dX12_clause_2 rfl ?_
  refine z_istore_n C dX12_clause_3 [(2, .int (0 : Int32)), (1, .int (-1 : Int32)), (0, .ref a0)] (by decide) rfl ?_
  exact z_lv _ [2, 1, 0] rfl (tX12_clause_4 C N N _ a0 (-1 : Int32) (0 : Int32))
def bX12_readAll_62 (N : Nat) (h : AH) (a0 : Nat) : Option (Int32 × AH) :=
  (zgI h a0 12 12).bind fun v_1 =>
  (if v_1 = (0) then
  zret .boolean (0 : Int32) h
  else
  (zgI h a0 12 11).bind fun v_2 =>
  (zgI h a0 12 10).bind fun v_3 =>
  (if v_2 = v_3 then
  zret .boolean (1 : Int32) h
  else
  zret .boolean (0 : Int32) h))
theorem tX12_readAll_62 {X : zX} {g : zG} (C : zC X g yX12_readAll cX12_readAll 2 26 0 0 (some .boolean)) (N : Nat) (h : AH) (a0 : Nat) : ZZ X g 2 (0, 0, 0, 0) (fun v : Int32 => some (.int v)) (bX12_readAll_62 N h a0) h 62 [(0, .ref a0)] [] := by
  unfold bX12_readAll_62
  refine z_aload_n C 0 dX12_readAll_62 rfl ?_
  refine z_getI C qX12_115 dX12_readAll_63 (fun v_1 => ?_)
  refine z_ifeq C 84 dX12_readAll_66 rfl ?_ ?_
  · refine z_iconst (v := (0 : Int32)) C dX12_readAll_84 rfl ?_
    exact z_zreturn C ⟨rfl, rfl⟩ dX12_readAll_85
  · refine z_aload_n C 0 dX12_readAll_69 rfl ?_
    refine z_getI C qX12_118 dX12_readAll_70 (fun v_2 => ?_)
    refine z_aload_n C 0 dX12_readAll_73 rfl ?_
    refine z_getI C qX12_121 dX12_readAll_74 (fun v_3 => ?_)
    refine z_icmpne C 84 dX12_readAll_77 rfl ?_ ?_
    · refine z_iconst (v := (0 : Int32)) C dX12_readAll_84 rfl ?_
      exact z_zreturn C ⟨rfl, rfl⟩ dX12_readAll_85
    · refine z_iconst (v := (1 : Int32)) C dX12_readAll_80 rfl ?_
      refine z_goto C 85 dX12_readAll_81 rfl ?_
      exact z_zreturn C ⟨rfl, rfl⟩ dX12_readAll_85
def bX12_readAll_27 (N : Nat) (r27 : AH → Nat → Int32 → Option (Int32 × AH)) (h : AH) (a0 : Nat) (x1 : Int32) : Option (Int32 × AH) :=
  (if (10 : Int32) ≤ x1 then
  bX12_readAll_62 N h a0
  else
  (zis h a0 12).bind fun _ =>
  zcall (fX12_isAt N h a0 (59 : Int32)) fun v_2 h_1 =>
  (if v_2 = (0) then
  bX12_readAll_62 N h_1 a0
  else
  (zgI h_1 a0 12 11).bind fun v_4 =>
  (zput h_1 a0 12 11 (.int (v_4 + (1 : Int32)))).bind fun h_5 =>
  (zis h_5 a0 12).bind fun _ =>
  zcall (fX12_clause N h_5 a0) fun _ h_6 =>
  r27 h_6 a0 (x1 + (1 : Int32))))
theorem tX12_readAll_27 {X : zX} {g : zG} (C : zC X g yX12_readAll cX12_readAll 2 26 0 0 (some .boolean)) (N : Nat) (n : Nat) : ∀ (h : AH) (a0 : Nat) (x1 : Int32), ZZ X g 2 (0, 0, 0, 0) (fun v : Int32 => some (.int v)) (zfix (fun _ _ _ => none) (bX12_readAll_27 N) n h a0 x1) h 27 [(0, .ref a0), (1, .int x1)] [] := by
  induction n with
  | zero => intro h a0 x1; exact z_none
  | succ n hr27 =>
    intro h a0 x1
    show ZZ X g 2 (0, 0, 0, 0) _ (bX12_readAll_27 N (zfix (fun _ _ _ => none) (bX12_readAll_27 N) n) h a0 x1) h 27 _ _
    unfold bX12_readAll_27
    refine z_iload_n C 1 dX12_readAll_27 rfl ?_
    refine z_bipush (v := (10 : Int32)) C dX12_readAll_28 rfl ?_
    refine z_icmpge C 62 dX12_readAll_30 rfl ?_ ?_
    · exact z_lv _ [0] rfl (tX12_readAll_62 C N _ a0)
    · refine z_aload_n C 0 dX12_readAll_33 rfl ?_
      refine z_bipush (v := (59 : Int32)) C dX12_readAll_34 rfl ?_
      refine z_bind (fun _ q_3 => ?_)
      refine z_calli (z_runV (As := [.int (59 : Int32)]) (rest := []) C mX12_124 (kX12_isAt N h a0 (59 : Int32)) q_3 (Nat.le_of_ble_eq_true rfl) ⟨Nat.zero_le _, Nat.zero_le _⟩ dX12_readAll_36 rfl rfl (Nat.le_of_ble_eq_true rfl)) rfl (fun v_2 h_1 => ?_)
      refine z_ifeq C 62 dX12_readAll_39 rfl ?_ ?_
      · exact z_lv _ [0] rfl (tX12_readAll_62 C N _ a0)
      · refine z_aload_n C 0 dX12_readAll_42 rfl ?_
        refine z_dup C dX12_readAll_43 rfl ?_
        refine z_getI C qX12_118 dX12_readAll_44 (fun v_4 => ?_)
        refine z_iconst (v := (1 : Int32)) C dX12_readAll_47 rfl ?_
        refine z_iadd C dX12_readAll_48 ?_
        refine z_putI C pX12_118 dX12_readAll_49 (fun h_5 => ?_)
        refine z_aload_n C 0 dX12_readAll_52 rfl ?_
        refine z_bind (fun _ q_7 => ?_)
        refine z_callv (z_runV (As := []) (rest := []) C mX12_160 (kX12_clause N h_5 a0) q_7 (Nat.le_of_ble_eq_true rfl) ⟨Nat.zero_le _, Nat.zero_le _⟩ dX12_readAll_53 rfl rfl (Nat.le_of_ble_eq_true rfl)) rfl (fun _ h_6 => ?_)
        refine z_iinc (v := x1 + (1 : Int32)) C 1 dX12_readAll_56 [(1, .int (x1 + (1 : Int32))), (0, .ref a0)] rfl rfl (by decide) rfl ?_
        refine z_goto C 27 dX12_readAll_59 rfl ?_
        exact z_lv _ [1, 0] rfl (hr27 _ a0 (x1 + (1 : Int32)))
def fX12_readAll (N : Nat) (h : AH) (a0 : Nat) : Option (Int32 × AH) :=
  (zput h a0 12 11 (.int (0 : Int32))).bind fun h_1 =>
  (zputZ h_1 a0 12 12 (1 : Int32)).bind fun h_2 =>
  (zput h_2 a0 12 14 (.int (1 : Int32))).bind fun h_3 =>
  (zput h_3 a0 12 15 (.int (6 : Int32))).bind fun h_4 =>
  (zis h_4 a0 12).bind fun _ =>
  zcall (fX12_clause N h_4 a0) fun _ h_5 =>
  zfix (fun _ _ _ => none) (bX12_readAll_27 N) N h_5 a0 (1 : Int32)
theorem kX12_readAll {l : Launch} {g : zG} (N : Nat) (h : AH) (a0 : Nat) : zM l g yX12_readAll cX12_readAll 2 (some .boolean) (26) 0 0 (fun v : Int32 => some (.int v)) (fX12_readAll N h a0) h [.ref a0] := by
  refine zM.of (lv0 := [(0, .ref a0)]) (by decide) (Nat.le_of_ble_eq_true rfl) rfl (fun X hX C => ?_)
  subst hX
  unfold fX12_readAll
  refine z_aload_n C 0 dX12_readAll_0 rfl ?_
  refine z_iconst (v := (0 : Int32)) C dX12_readAll_1 rfl ?_
  refine z_putI C pX12_118 dX12_readAll_2 (fun h_1 => ?_)
  refine z_aload_n C 0 dX12_readAll_5 rfl ?_
  refine z_iconst (v := (1 : Int32)) C dX12_readAll_6 rfl ?_
  refine z_putZ C pX12_115 dX12_readAll_7 (fun h_2 => ?_)
  refine z_aload_n C 0 dX12_readAll_10 rfl ?_
  refine z_iconst (v := (1 : Int32)) C dX12_readAll_11 rfl ?_
  refine z_putI C pX12_157 dX12_readAll_12 (fun h_3 => ?_)
  refine z_aload_n C 0 dX12_readAll_15 rfl ?_
  refine z_bipush (v := (6 : Int32)) C dX12_readAll_16 rfl ?_
  refine z_putI C pX12_154 dX12_readAll_18 (fun h_4 => ?_)
  refine z_iconst (v := (1 : Int32)) C dX12_readAll_21 rfl ?_
  refine z_istore_n C dX12_readAll_22 [(1, .int (1 : Int32)), (0, .ref a0)] (by decide) rfl ?_
  refine z_aload_n C 1 dX12_readAll_23 rfl ?_
  refine z_bind (fun _ q_6 => ?_)
  refine z_callv (z_runV (As := []) (rest := []) C mX12_160 (kX12_clause N h_4 a0) q_6 (Nat.le_of_ble_eq_true rfl) ⟨Nat.zero_le _, Nat.zero_le _⟩ dX12_readAll_24 rfl rfl (Nat.le_of_ble_eq_true rfl)) rfl (fun _ h_5 => ?_)
  exact z_lv _ [1, 0] rfl (tX12_readAll_27 C N N _ a0 (1 : Int32))
def bX12_readFor_103 (N : Nat) (r103 : AH → Nat → Int32 → Int32 → Option (Unit × AH)) (h : AH) (a0 : Nat) (x4 : Int32) (x5 : Int32) : Option (Unit × AH) :=
  (zgI h a0 12 10).bind fun v_1 =>
  (if v_1 ≤ x5 then
  (zis h a0 12).bind fun _ =>
  zcall (fX12_readAll N h a0) fun v_3 h_2 =>
  some ((), h_2)
  else
  (zgR h a0 12 9).bind fun a_5 =>
  (zgR h a0 12 6).bind fun a_6 =>
  (zald 0 h a_6 (((100 : Int32) * x4) + x5)).bind fun v_7 =>
  (zast 0 h a_5 x5 v_7).bind fun h_8 =>
  r103 h_8 a0 x4 (x5 + (1 : Int32)))
theorem tX12_readFor_103 {X : zX} {g : zG} (C : zC X g yX12_readFor cX12_readFor 6 27 0 0 none) (N : Nat) (n : Nat) : ∀ (h : AH) (a0 : Nat) (x4 : Int32) (x5 : Int32), ZZ X g 6 (0, 0, 0, 0) (fun _ : Unit => none) (zfix (fun _ _ _ _ => none) (bX12_readFor_103 N) n h a0 x4 x5) h 103 [(0, .ref a0), (4, .int x4), (5, .int x5)] [] := by
  induction n with
  | zero => intro h a0 x4 x5; exact z_none
  | succ n hr103 =>
    intro h a0 x4 x5
    show ZZ X g 6 (0, 0, 0, 0) _ (bX12_readFor_103 N (zfix (fun _ _ _ _ => none) (bX12_readFor_103 N) n) h a0 x4 x5) h 103 _ _
    unfold bX12_readFor_103
    refine z_iload C 2 dX12_readFor_103 rfl ?_
    refine z_aload_n C 0 dX12_readFor_105 rfl ?_
    refine z_getI C qX12_121 dX12_readFor_106 (fun v_1 => ?_)
    refine z_icmpge C 138 dX12_readFor_109 rfl ?_ ?_
    · refine z_aload_n C 0 dX12_readFor_138 rfl ?_
      refine z_bind (fun _ q_4 => ?_)
      refine z_calli (z_runV (As := []) (rest := []) C mX12_166 (kX12_readAll N h a0) q_4 (Nat.le_of_ble_eq_true rfl) ⟨Nat.zero_le _, Nat.zero_le _⟩ dX12_readFor_139 rfl rfl (Nat.le_of_ble_eq_true rfl)) rfl (fun v_3 h_2 => ?_)
      refine z_pop C dX12_readFor_142 rfl ?_
      exact z_return C ⟨rfl, rfl⟩ dX12_readFor_143
    · refine z_aload_n C 0 dX12_readFor_112 rfl ?_
      refine z_getR C qX12_30 dX12_readFor_113 (fun a_5 => ?_)
      refine z_iload C 2 dX12_readFor_116 rfl ?_
      refine z_aload_n C 0 dX12_readFor_118 rfl ?_
      refine z_getR C qX12_24 dX12_readFor_119 (fun a_6 => ?_)
      refine z_bipush (v := (100 : Int32)) C dX12_readFor_122 rfl ?_
      refine z_iload C 1 dX12_readFor_124 rfl ?_
      refine z_imul C dX12_readFor_126 ?_
      refine z_iload C 2 dX12_readFor_127 rfl ?_
      refine z_iadd C dX12_readFor_129 ?_
      refine z_iaload C dX12_readFor_130 (fun v_7 => ?_)
      refine z_iastore C dX12_readFor_131 (fun h_8 => ?_)
      refine z_iinc (v := x5 + (1 : Int32)) C 2 dX12_readFor_132 [(5, .int (x5 + (1 : Int32))), (0, .ref a0), (4, .int x4)] rfl rfl (by decide) rfl ?_
      refine z_goto C 103 dX12_readFor_135 rfl ?_
      exact z_lv _ [1, 2, 0] rfl (hr103 _ a0 x4 (x5 + (1 : Int32)))
def fX12_readFor (N : Nat) (h : AH) (a0 : Nat) (x1 : Int32) (x2 : Int32) (x3 : Int32) : Option (Unit × AH) :=
  (zgR h a0 12 16).bind fun a_1 =>
  (zast 0 h a_1 (0 : Int32) x1).bind fun h_2 =>
  (zgR h_2 a0 12 16).bind fun a_3 =>
  (zis h_2 a0 12).bind fun _ =>
  zcall (fX12_kind N h_2 a0 x1) fun v_5 h_4 =>
  (zast 0 h_4 a_3 (1 : Int32) v_5).bind fun h_7 =>
  (zgR h_7 a0 12 16).bind fun a_8 =>
  (zis h_7 a0 12).bind fun _ =>
  zcall (fX12_v N h_7 a0 x1) fun v_10 h_9 =>
  (zast 0 h_9 a_8 (2 : Int32) v_10).bind fun h_12 =>
  (zgR h_12 a0 12 16).bind fun a_13 =>
  (zast 0 h_12 a_13 (3 : Int32) x2).bind fun h_14 =>
  (zgR h_14 a0 12 16).bind fun a_15 =>
  (zast 0 h_14 a_15 (4 : Int32) (x3 - x3 / (10 : Int32) * (10 : Int32))).bind fun h_16 =>
  (zgR h_16 a0 12 16).bind fun a_17 =>
  (zast 0 h_16 a_17 (5 : Int32) (x3 - x3 / (7 : Int32) * (7 : Int32))).bind fun h_18 =>
  (zgR h_18 a0 12 0).bind fun a_19 =>
  (zald 0 h_18 a_19 (80 : Int32)).bind fun v_20 =>
  (if v_20 = (0) then
  (zput h_18 a0 12 14 (.int (1 : Int32))).bind fun h_27 =>
  (zput h_27 a0 12 15 (.int (6 : Int32))).bind fun h_28 =>
  some ((), h_28)
  else
  (zgR h_18 a0 12 0).bind fun a_21 =>
  (zald 0 h_18 a_21 (80 : Int32)).bind fun v_22 =>
  znm (v_22 - (1 : Int32)) fun y_23 =>
  (zgR h_18 a0 12 7).bind fun a_24 =>
  (zald 0 h_18 a_24 y_23).bind fun v_25 =>
  (zput h_18 a0 12 10 (.int v_25)).bind fun h_26 =>
  zfix (fun _ _ _ _ => none) (bX12_readFor_103 N) N h_26 a0 y_23 (0 : Int32))
theorem kX12_readFor {l : Launch} {g : zG} (N : Nat) (h : AH) (a0 : Nat) (x1 : Int32) (x2 : Int32) (x3 : Int32) : zM l g yX12_readFor cX12_readFor 6 none (27) 0 0 (fun _ : Unit => none) (fX12_readFor N h a0 x1 x2 x3) h [.ref a0, .int x1, .int x2, .int x3] := by
  refine zM.of (lv0 := [(0, .ref a0), (1, .int x1), (2, .int x2), (3, .int x3)]) (by decide) (Nat.le_of_ble_eq_true rfl) rfl (fun X hX C => ?_)
  subst hX
  unfold fX12_readFor
  refine z_aload_n C 0 dX12_readFor_0 rfl ?_
  refine z_getR C qX12_33 dX12_readFor_1 (fun a_1 => ?_)
  refine z_iconst (v := (0 : Int32)) C dX12_readFor_4 rfl ?_
  refine z_iload_n C 1 dX12_readFor_5 rfl ?_
  refine z_iastore C dX12_readFor_6 (fun h_2 => ?_)
  refine z_aload_n C 0 dX12_readFor_7 rfl ?_
  refine z_getR C qX12_33 dX12_readFor_8 (fun a_3 => ?_)
  refine z_iconst (v := (1 : Int32)) C dX12_readFor_11 rfl ?_
  refine z_aload_n C 0 dX12_readFor_12 rfl ?_
  refine z_iload_n C 1 dX12_readFor_13 rfl ?_
  refine z_bind (fun _ q_6 => ?_)
  refine z_calli (z_runV (As := [.int x1]) (rest := [.int (1 : Int32), .ref a_3]) C mX12_108 (kX12_kind N h_2 a0 x1) q_6 (Nat.le_of_ble_eq_true rfl) ⟨Nat.zero_le _, Nat.zero_le _⟩ dX12_readFor_14 rfl rfl (Nat.le_of_ble_eq_true rfl)) rfl (fun v_5 h_4 => ?_)
  refine z_iastore C dX12_readFor_17 (fun h_7 => ?_)
  refine z_aload_n C 0 dX12_readFor_18 rfl ?_
  refine z_getR C qX12_33 dX12_readFor_19 (fun a_8 => ?_)
  refine z_iconst (v := (2 : Int32)) C dX12_readFor_22 rfl ?_
  refine z_aload_n C 0 dX12_readFor_23 rfl ?_
  refine z_iload_n C 1 dX12_readFor_24 rfl ?_
  refine z_bind (fun _ q_11 => ?_)
  refine z_calli (z_runV (As := [.int x1]) (rest := [.int (2 : Int32), .ref a_8]) C mX12_163 (kX12_v N h_7 a0 x1) q_11 (Nat.le_of_ble_eq_true rfl) ⟨Nat.zero_le _, Nat.zero_le _⟩ dX12_readFor_25 rfl rfl (Nat.le_of_ble_eq_true rfl)) rfl (fun v_10 h_9 => ?_)
  refine z_iastore C dX12_readFor_28 (fun h_12 => ?_)
  refine z_aload_n C 0 dX12_readFor_29 rfl ?_
  refine z_getR C qX12_33 dX12_readFor_30 (fun a_13 => ?_)
  refine z_iconst (v := (3 : Int32)) C dX12_readFor_33 rfl ?_
  refine z_iload_n C 2 dX12_readFor_34 rfl ?_
  refine z_iastore C dX12_readFor_35 (fun h_14 => ?_)
  refine z_aload_n C 0 dX12_readFor_36 rfl ?_
  refine z_getR C qX12_33 dX12_readFor_37 (fun a_15 => ?_)
  refine z_iconst (v := (4 : Int32)) C dX12_readFor_40 rfl ?_
  refine z_iload_n C 3 dX12_readFor_41 rfl ?_
  refine z_bipush (v := (10 : Int32)) C dX12_readFor_42 rfl ?_
  refine z_irem C dX12_readFor_44 (by decide) ?_
  refine z_iastore C dX12_readFor_45 (fun h_16 => ?_)
  refine z_aload_n C 0 dX12_readFor_46 rfl ?_
  refine z_getR C qX12_33 dX12_readFor_47 (fun a_17 => ?_)
  refine z_iconst (v := (5 : Int32)) C dX12_readFor_50 rfl ?_
  refine z_iload_n C 3 dX12_readFor_51 rfl ?_
  refine z_bipush (v := (7 : Int32)) C dX12_readFor_52 rfl ?_
  refine z_irem C dX12_readFor_54 (by decide) ?_
  refine z_iastore C dX12_readFor_55 (fun h_18 => ?_)
  refine z_aload_n C 0 dX12_readFor_56 rfl ?_
  refine z_getR C qX12_9 dX12_readFor_57 (fun a_19 => ?_)
  refine z_bipush (v := (80 : Int32)) C dX12_readFor_60 rfl ?_
  refine z_iaload C dX12_readFor_62 (fun v_20 => ?_)
  refine z_ifne C 78 dX12_readFor_63 rfl ?_ ?_
  · refine z_aload_n C 0 dX12_readFor_78 rfl ?_
    refine z_getR C qX12_9 dX12_readFor_79 (fun a_21 => ?_)
    refine z_bipush (v := (80 : Int32)) C dX12_readFor_82 rfl ?_
    refine z_iaload C dX12_readFor_84 (fun v_22 => ?_)
    refine z_iconst (v := (1 : Int32)) C dX12_readFor_85 rfl ?_
    refine z_isub C dX12_readFor_86 ?_
    refine z_nmI (fun y_23 => ?_)
    refine z_istore C dX12_readFor_87 [(4, .int y_23), (0, .ref a0), (1, .int x1), (2, .int x2), (3, .int x3)] (by decide) rfl ?_
    refine z_aload_n C 1 dX12_readFor_89 rfl ?_
    refine z_aload_n C 1 dX12_readFor_90 rfl ?_
    refine z_getR C qX12_27 dX12_readFor_91 (fun a_24 => ?_)
    refine z_iload C 0 dX12_readFor_94 rfl ?_
    refine z_iaload C dX12_readFor_96 (fun v_25 => ?_)
    refine z_putI C pX12_121 dX12_readFor_97 (fun h_26 => ?_)
    refine z_iconst (v := (0 : Int32)) C dX12_readFor_100 rfl ?_
    refine z_istore C dX12_readFor_101 [(5, .int (0 : Int32)), (4, .int y_23), (0, .ref a0), (1, .int x1), (2, .int x2), (3, .int x3)] (by decide) rfl ?_
    exact z_lv _ [2, 1, 0] rfl (tX12_readFor_103 C N N _ a0 y_23 (0 : Int32))
  · refine z_aload_n C 0 dX12_readFor_66 rfl ?_
    refine z_iconst (v := (1 : Int32)) C dX12_readFor_67 rfl ?_
    refine z_putI C pX12_157 dX12_readFor_68 (fun h_27 => ?_)
    refine z_aload_n C 0 dX12_readFor_71 rfl ?_
    refine z_bipush (v := (6 : Int32)) C dX12_readFor_72 rfl ?_
    refine z_putI C pX12_154 dX12_readFor_74 (fun h_28 => ?_)
    exact z_return C ⟨rfl, rfl⟩ dX12_readFor_77
def bX12_gripOn_43 (N : Nat) (h : AH) (a0 : Nat) (x1 : Int32) (x2 : Int32) (x3 : Int32) (x4 : Int32) (s0 : Int32) : Option (Int32 × AH) :=
  (zis h a0 12).bind fun _ =>
  zcall (fX12_kind N h a0 x1) fun v_2 h_1 =>
  (if v_2 = (1 : Int32) then
  some (x4, h_1)
  else if v_2 = (2 : Int32) then
  some (s0, h_1)
  else if v_2 = (3 : Int32) then
  (zgI h_1 a0 12 14).bind fun v_7 =>
  some (v_7 / (2 : Int32), h_1)
  else if v_2 = (4 : Int32) then
  (zis h_1 a0 12).bind fun _ =>
  zcall (fX12_v N h_1 a0 x1) fun v_10 h_9 =>
  (if x2 = (v_10 - v_10 / (8 : Int32) * (8 : Int32)) then
  some ((0 : Int32), h_9)
  else
  some (x4, h_9))
  else if v_2 = (5 : Int32) then
  (zis h_1 a0 12).bind fun _ =>
  zcall (fX12_v N h_1 a0 x1) fun v_14 h_13 =>
  some (s0 + (v_14 - v_14 / (3 : Int32) * (3 : Int32)), h_13)
  else if v_2 = (6 : Int32) then
  (zgI h_1 a0 12 14).bind fun v_17 =>
  (zgR h_1 a0 12 0).bind fun a_18 =>
  (zald 0 h_1 a_18 ((((7 : Int32) * x1) + (3 : Int32)) + (x3 - x3 / (4 : Int32) * (4 : Int32)))).bind fun v_19 =>
  some ((v_17 / (2 : Int32)) + v_19, h_1)
  else 
  (zgI h_1 a0 12 14).bind fun v_20 =>
  some (v_20, h_1))
theorem tX12_gripOn_43 {X : zX} {g : zG} (C : zC X g yX12_gripOn cX12_gripOn 6 28 0 0 (some .int)) (N : Nat) (h : AH) (a0 : Nat) (x1 : Int32) (x2 : Int32) (x3 : Int32) (x4 : Int32) (s0 : Int32) : ZZ X g 6 (0, 0, 0, 0) (fun v : Int32 => some (.int v)) (bX12_gripOn_43 N h a0 x1 x2 x3 x4 s0) h 43 [(0, .ref a0), (1, .int x1), (2, .int x2), (3, .int x3), (4, .int x4)] [.int s0] := by
  unfold bX12_gripOn_43
  refine z_istore C dX12_gripOn_43 [(5, .int s0), (0, .ref a0), (1, .int x1), (2, .int x2), (3, .int x3), (4, .int x4)] (by decide) rfl ?_
  refine z_aload_n C 1 dX12_gripOn_45 rfl ?_
  refine z_iload_n C 2 dX12_gripOn_46 rfl ?_
  refine z_bind (fun _ q_3 => ?_)
  refine z_calli (z_runV (As := [.int x1]) (rest := []) C mX12_108 (kX12_kind N h a0 x1) q_3 (Nat.le_of_ble_eq_true rfl) ⟨Nat.zero_le _, Nat.zero_le _⟩ dX12_gripOn_47 rfl rfl (Nat.le_of_ble_eq_true rfl)) rfl (fun v_2 h_1 => ?_)
  refine z_ite (fun q_4 => ?_) (fun q_4 => ?_)
  · subst q_4
    refine z_table C 88 dX12_gripOn_50 (by decide) (by decide) rfl rfl ?_
    refine z_iload C 5 dX12_gripOn_88 rfl ?_
    exact z_ireturn C ⟨rfl, rfl⟩ dX12_gripOn_90
  refine z_ite (fun q_5 => ?_) (fun q_5 => ?_)
  · subst q_5
    refine z_table C 91 dX12_gripOn_50 (by decide) (by decide) rfl rfl ?_
    refine z_iload C 0 dX12_gripOn_91 rfl ?_
    exact z_ireturn C ⟨rfl, rfl⟩ dX12_gripOn_93
  refine z_ite (fun q_6 => ?_) (fun q_6 => ?_)
  · subst q_6
    refine z_table C 94 dX12_gripOn_50 (by decide) (by decide) rfl rfl ?_
    refine z_aload_n C 1 dX12_gripOn_94 rfl ?_
    refine z_getI C qX12_157 dX12_gripOn_95 (fun v_7 => ?_)
    refine z_iconst (v := (2 : Int32)) C dX12_gripOn_98 rfl ?_
    refine z_idiv C dX12_gripOn_99 (by decide) ?_
    exact z_ireturn C ⟨rfl, rfl⟩ dX12_gripOn_100
  refine z_ite (fun q_8 => ?_) (fun q_8 => ?_)
  · subst q_8
    refine z_table C 101 dX12_gripOn_50 (by decide) (by decide) rfl rfl ?_
    refine z_iload_n C 3 dX12_gripOn_101 rfl ?_
    refine z_aload_n C 1 dX12_gripOn_102 rfl ?_
    refine z_iload_n C 2 dX12_gripOn_103 rfl ?_
    refine z_bind (fun _ q_11 => ?_)
    refine z_calli (z_runV (As := [.int x1]) (rest := [.int x2]) C mX12_163 (kX12_v N h_1 a0 x1) q_11 (Nat.le_of_ble_eq_true rfl) ⟨Nat.zero_le _, Nat.zero_le _⟩ dX12_gripOn_104 rfl rfl (Nat.le_of_ble_eq_true rfl)) rfl (fun v_10 h_9 => ?_)
    refine z_bipush (v := (8 : Int32)) C dX12_gripOn_107 rfl ?_
    refine z_irem C dX12_gripOn_109 (by decide) ?_
    refine z_icmpne C 117 dX12_gripOn_110 rfl ?_ ?_
    · refine z_iload C 5 dX12_gripOn_117 rfl ?_
      exact z_ireturn C ⟨rfl, rfl⟩ dX12_gripOn_119
    · refine z_iconst (v := (0 : Int32)) C dX12_gripOn_113 rfl ?_
      refine z_goto C 119 dX12_gripOn_114 rfl ?_
      exact z_ireturn C ⟨rfl, rfl⟩ dX12_gripOn_119
  refine z_ite (fun q_12 => ?_) (fun q_12 => ?_)
  · subst q_12
    refine z_table C 120 dX12_gripOn_50 (by decide) (by decide) rfl rfl ?_
    refine z_iload C 0 dX12_gripOn_120 rfl ?_
    refine z_aload_n C 1 dX12_gripOn_122 rfl ?_
    refine z_iload_n C 2 dX12_gripOn_123 rfl ?_
    refine z_bind (fun _ q_15 => ?_)
    refine z_calli (z_runV (As := [.int x1]) (rest := [.int s0]) C mX12_163 (kX12_v N h_1 a0 x1) q_15 (Nat.le_of_ble_eq_true rfl) ⟨Nat.zero_le _, Nat.zero_le _⟩ dX12_gripOn_124 rfl rfl (Nat.le_of_ble_eq_true rfl)) rfl (fun v_14 h_13 => ?_)
    refine z_iconst (v := (3 : Int32)) C dX12_gripOn_127 rfl ?_
    refine z_irem C dX12_gripOn_128 (by decide) ?_
    refine z_iadd C dX12_gripOn_129 ?_
    exact z_ireturn C ⟨rfl, rfl⟩ dX12_gripOn_130
  refine z_ite (fun q_16 => ?_) (fun q_16 => ?_)
  · subst q_16
    refine z_table C 131 dX12_gripOn_50 (by decide) (by decide) rfl rfl ?_
    refine z_aload_n C 1 dX12_gripOn_131 rfl ?_
    refine z_getI C qX12_157 dX12_gripOn_132 (fun v_17 => ?_)
    refine z_iconst (v := (2 : Int32)) C dX12_gripOn_135 rfl ?_
    refine z_idiv C dX12_gripOn_136 (by decide) ?_
    refine z_aload_n C 1 dX12_gripOn_137 rfl ?_
    refine z_getR C qX12_9 dX12_gripOn_138 (fun a_18 => ?_)
    refine z_bipush (v := (7 : Int32)) C dX12_gripOn_141 rfl ?_
    refine z_iload_n C 2 dX12_gripOn_143 rfl ?_
    refine z_imul C dX12_gripOn_144 ?_
    refine z_iconst (v := (3 : Int32)) C dX12_gripOn_145 rfl ?_
    refine z_iadd C dX12_gripOn_146 ?_
    refine z_iload_n C 4 dX12_gripOn_147 rfl ?_
    refine z_iconst (v := (4 : Int32)) C dX12_gripOn_148 rfl ?_
    refine z_irem C dX12_gripOn_149 (by decide) ?_
    refine z_iadd C dX12_gripOn_150 ?_
    refine z_iaload C dX12_gripOn_151 (fun v_19 => ?_)
    refine z_iadd C dX12_gripOn_152 ?_
    exact z_ireturn C ⟨rfl, rfl⟩ dX12_gripOn_153
  refine z_tableO C 154 dX12_gripOn_50 (by have eq_4 := lv_neT (a := 1) q_4 rfl; have eq_5 := lv_neT (a := 2) q_5 rfl; have eq_6 := lv_neT (a := 3) q_6 rfl; have eq_8 := lv_neT (a := 4) q_8 rfl; have eq_12 := lv_neT (a := 5) q_12 rfl; have eq_16 := lv_neT (a := 6) q_16 rfl; omega) rfl ?_
  refine z_aload_n C 1 dX12_gripOn_154 rfl ?_
  refine z_getI C qX12_157 dX12_gripOn_155 (fun v_20 => ?_)
  exact z_ireturn C ⟨rfl, rfl⟩ dX12_gripOn_158
def bX12_gripOn_25 (N : Nat) (h : AH) (a0 : Nat) (x1 : Int32) (x2 : Int32) (x3 : Int32) (s0 : Int32) (s1 : Int32) : Option (Int32 × AH) :=
  znm (s0 + s1) fun y_1 =>
  (if (x3 - x3 / (2 : Int32) * (2 : Int32)) = (1 : Int32) then
  bX12_gripOn_43 N h a0 x1 x2 x3 y_1 (0 : Int32)
  else
  (zgI h a0 12 14).bind fun v_2 =>
  bX12_gripOn_43 N h a0 x1 x2 x3 y_1 v_2)
theorem tX12_gripOn_25 {X : zX} {g : zG} (C : zC X g yX12_gripOn cX12_gripOn 6 28 0 0 (some .int)) (N : Nat) (h : AH) (a0 : Nat) (x1 : Int32) (x2 : Int32) (x3 : Int32) (s0 : Int32) (s1 : Int32) : ZZ X g 6 (0, 0, 0, 0) (fun v : Int32 => some (.int v)) (bX12_gripOn_25 N h a0 x1 x2 x3 s0 s1) h 25 [(0, .ref a0), (1, .int x1), (2, .int x2), (3, .int x3)] [.int s1, .int s0] := by
  unfold bX12_gripOn_25
  refine z_iadd C dX12_gripOn_25 ?_
  refine z_nmI (fun y_1 => ?_)
  refine z_istore C dX12_gripOn_26 [(4, .int y_1), (0, .ref a0), (1, .int x1), (2, .int x2), (3, .int x3)] (by decide) rfl ?_
  refine z_iload_n C 4 dX12_gripOn_28 rfl ?_
  refine z_iconst (v := (2 : Int32)) C dX12_gripOn_29 rfl ?_
  refine z_irem C dX12_gripOn_30 (by decide) ?_
  refine z_iconst (v := (1 : Int32)) C dX12_gripOn_31 rfl ?_
  refine z_icmpne C 39 dX12_gripOn_32 rfl ?_ ?_
  · refine z_aload_n C 1 dX12_gripOn_39 rfl ?_
    refine z_getI C qX12_157 dX12_gripOn_40 (fun v_2 => ?_)
    exact z_lv _ [1, 2, 3, 4, 0] rfl (tX12_gripOn_43 C N _ a0 x1 x2 x3 y_1 v_2)
  · refine z_iconst (v := (0 : Int32)) C dX12_gripOn_35 rfl ?_
    refine z_goto C 43 dX12_gripOn_36 rfl ?_
    exact z_lv _ [1, 2, 3, 4, 0] rfl (tX12_gripOn_43 C N _ a0 x1 x2 x3 y_1 (0 : Int32))
def fX12_gripOn (N : Nat) (h : AH) (a0 : Nat) (x1 : Int32) (x2 : Int32) (x3 : Int32) : Option (Int32 × AH) :=
  (zis h a0 12).bind fun _ =>
  zcall (fX12_readFor N h a0 x1 x2 x3) fun _ h_1 =>
  (zgI h_1 a0 12 14).bind fun v_3 =>
  (zis h_1 a0 12).bind fun _ =>
  zcall (fX12_v N h_1 a0 x1) fun v_5 h_4 =>
  (if v_5 ≤ x2 then
  bX12_gripOn_25 N h_4 a0 x1 x2 x3 v_3 (0 : Int32)
  else
  bX12_gripOn_25 N h_4 a0 x1 x2 x3 v_3 (2 : Int32))
theorem kX12_gripOn {l : Launch} {g : zG} (N : Nat) (h : AH) (a0 : Nat) (x1 : Int32) (x2 : Int32) (x3 : Int32) : zM l g yX12_gripOn cX12_gripOn 6 (some .int) (28) 0 0 (fun v : Int32 => some (.int v)) (fX12_gripOn N h a0 x1 x2 x3) h [.ref a0, .int x1, .int x2, .int x3] := by
  refine zM.of (lv0 := [(0, .ref a0), (1, .int x1), (2, .int x2), (3, .int x3)]) (by decide) (Nat.le_of_ble_eq_true rfl) rfl (fun X hX C => ?_)
  subst hX
  unfold fX12_gripOn
  refine z_aload_n C 0 dX12_gripOn_0 rfl ?_
  refine z_iload_n C 1 dX12_gripOn_1 rfl ?_
  refine z_iload_n C 2 dX12_gripOn_2 rfl ?_
  refine z_iload_n C 3 dX12_gripOn_3 rfl ?_
  refine z_bind (fun _ q_2 => ?_)
  refine z_callv (z_runV (As := [.int x1, .int x2, .int x3]) (rest := []) C mX12_172 (kX12_readFor N h a0 x1 x2 x3) q_2 (Nat.le_of_ble_eq_true rfl) ⟨Nat.zero_le _, Nat.zero_le _⟩ dX12_gripOn_4 rfl rfl (Nat.le_of_ble_eq_true rfl)) rfl (fun _ h_1 => ?_)
  refine z_aload_n C 0 dX12_gripOn_7 rfl ?_
  refine z_getI C qX12_157 dX12_gripOn_8 (fun v_3 => ?_)
  refine z_iload_n C 2 dX12_gripOn_11 rfl ?_
  refine z_aload_n C 0 dX12_gripOn_12 rfl ?_
  refine z_iload_n C 1 dX12_gripOn_13 rfl ?_
  refine z_bind (fun _ q_6 => ?_)
  refine z_calli (z_runV (As := [.int x1]) (rest := [.int x2, .int v_3]) C mX12_163 (kX12_v N h_1 a0 x1) q_6 (Nat.le_of_ble_eq_true rfl) ⟨Nat.zero_le _, Nat.zero_le _⟩ dX12_gripOn_14 rfl rfl (Nat.le_of_ble_eq_true rfl)) rfl (fun v_5 h_4 => ?_)
  refine z_icmpge C 24 dX12_gripOn_17 rfl ?_ ?_
  · refine z_iconst (v := (0 : Int32)) C dX12_gripOn_24 rfl ?_
    exact z_lv _ [0, 1, 2, 3] rfl (tX12_gripOn_25 C N _ a0 x1 x2 x3 v_3 (0 : Int32))
  · refine z_iconst (v := (2 : Int32)) C dX12_gripOn_20 rfl ?_
    refine z_goto C 25 dX12_gripOn_21 rfl ?_
    exact z_lv _ [0, 1, 2, 3] rfl (tX12_gripOn_25 C N _ a0 x1 x2 x3 v_3 (2 : Int32))
def fX12_keeps (N : Nat) (h : AH) (a0 : Nat) (x1 : Int32) (x2 : Int32) (x3 : Int32) : Option (Int32 × AH) :=
  (zis h a0 12).bind fun _ =>
  zcall (fX12_gripOn N h a0 x1 x2 x3) fun v_2 h_1 =>
  (if v_2 ≤ (0) then
  zret .boolean (0 : Int32) h_1
  else
  zret .boolean (1 : Int32) h_1)
theorem kX12_keeps {l : Launch} {g : zG} (N : Nat) (h : AH) (a0 : Nat) (x1 : Int32) (x2 : Int32) (x3 : Int32) : zM l g yX12_keeps cX12_keeps 4 (some .boolean) (29) 0 0 (fun v : Int32 => some (.int v)) (fX12_keeps N h a0 x1 x2 x3) h [.ref a0, .int x1, .int x2, .int x3] := by
  refine zM.of (lv0 := [(0, .ref a0), (1, .int x1), (2, .int x2), (3, .int x3)]) (by decide) (Nat.le_of_ble_eq_true rfl) rfl (fun X hX C => ?_)
  subst hX
  unfold fX12_keeps
  refine z_aload_n C 0 dX12_keeps_0 rfl ?_
  refine z_iload_n C 1 dX12_keeps_1 rfl ?_
  refine z_iload_n C 2 dX12_keeps_2 rfl ?_
  refine z_iload_n C 3 dX12_keeps_3 rfl ?_
  refine z_bind (fun _ q_3 => ?_)
  refine z_calli (z_runV (As := [.int x1, .int x2, .int x3]) (rest := []) C mX12_95 (kX12_gripOn N h a0 x1 x2 x3) q_3 (Nat.le_of_ble_eq_true rfl) ⟨Nat.zero_le _, Nat.zero_le _⟩ dX12_keeps_4 rfl rfl (Nat.le_of_ble_eq_true rfl)) rfl (fun v_2 h_1 => ?_)
  refine z_ifle C 14 dX12_keeps_7 rfl ?_ ?_
  · refine z_iconst (v := (0 : Int32)) C dX12_keeps_14 rfl ?_
    exact z_zreturn C ⟨rfl, rfl⟩ dX12_keeps_15
  · refine z_iconst (v := (1 : Int32)) C dX12_keeps_10 rfl ?_
    refine z_goto C 15 dX12_keeps_11 rfl ?_
    exact z_zreturn C ⟨rfl, rfl⟩ dX12_keeps_15
def bX12_stays_6 (N : Nat) (r6 : AH → Nat → Int32 → Int32 → Int32 → Int32 → Int32 → Option (Int32 × AH)) (h : AH) (a0 : Nat) (x1 : Int32) (x2 : Int32) (x3 : Int32) (x4 : Int32) (x5 : Int32) : Option (Int32 × AH) :=
  (if (8 : Int32) ≤ x5 then
  some (x4, h)
  else
  (if ((x2 >>> (x5 &&& 31)) &&& (1 : Int32)) = (1 : Int32) then
  (zis h a0 12).bind fun _ =>
  zcall (fX12_keeps N h a0 x1 x5 x3) fun v_3 h_2 =>
  (if v_3 = (0) then
  znm (x4 ||| (0 : Int32)) fun y_5 =>
  r6 h_2 a0 x1 x2 x3 y_5 (x5 + (1 : Int32))
  else
  znm (x4 ||| ((1 : Int32) <<< (x5 &&& 31))) fun y_6 =>
  r6 h_2 a0 x1 x2 x3 y_6 (x5 + (1 : Int32)))
  else
  znm (x4 ||| (0 : Int32)) fun y_1 =>
  r6 h a0 x1 x2 x3 y_1 (x5 + (1 : Int32))))
theorem tX12_stays_6 {X : zX} {g : zG} (C : zC X g yX12_stays cX12_stays 6 30 0 0 (some .int)) (N : Nat) (n : Nat) : ∀ (h : AH) (a0 : Nat) (x1 : Int32) (x2 : Int32) (x3 : Int32) (x4 : Int32) (x5 : Int32), ZZ X g 6 (0, 0, 0, 0) (fun v : Int32 => some (.int v)) (zfix (fun _ _ _ _ _ _ _ => none) (bX12_stays_6 N) n h a0 x1 x2 x3 x4 x5) h 6 [(0, .ref a0), (1, .int x1), (2, .int x2), (3, .int x3), (4, .int x4), (5, .int x5)] [] := by
  induction n with
  | zero => intro h a0 x1 x2 x3 x4 x5; exact z_none
  | succ n hr6 =>
    intro h a0 x1 x2 x3 x4 x5
    show ZZ X g 6 (0, 0, 0, 0) _ (bX12_stays_6 N (zfix (fun _ _ _ _ _ _ _ => none) (bX12_stays_6 N) n) h a0 x1 x2 x3 x4 x5) h 6 _ _
    unfold bX12_stays_6
    refine z_iload C 5 dX12_stays_6 rfl ?_
    refine z_bipush (v := (8 : Int32)) C dX12_stays_8 rfl ?_
    refine z_icmpge C 53 dX12_stays_10 rfl ?_ ?_
    · refine z_iload C 4 dX12_stays_53 rfl ?_
      exact z_ireturn C ⟨rfl, rfl⟩ dX12_stays_55
    · refine z_iload C 4 dX12_stays_13 rfl ?_
      refine z_iload_n C 2 dX12_stays_15 rfl ?_
      refine z_iload C 5 dX12_stays_16 rfl ?_
      refine z_ishr C dX12_stays_18 ?_
      refine z_iconst (v := (1 : Int32)) C dX12_stays_19 rfl ?_
      refine z_iand C dX12_stays_20 ?_
      refine z_iconst (v := (1 : Int32)) C dX12_stays_21 rfl ?_
      refine z_icmpne C 43 dX12_stays_22 rfl ?_ ?_
      · refine z_iconst (v := (0 : Int32)) C dX12_stays_43 rfl ?_
        refine z_ior C dX12_stays_44 ?_
        refine z_nmI (fun y_1 => ?_)
        refine z_istore C dX12_stays_45 [(4, .int y_1), (0, .ref a0), (1, .int x1), (2, .int x2), (3, .int x3), (5, .int x5)] (by decide) rfl ?_
        refine z_iinc (v := x5 + (1 : Int32)) C 5 dX12_stays_47 [(5, .int (x5 + (1 : Int32))), (4, .int y_1), (0, .ref a0), (1, .int x1), (2, .int x2), (3, .int x3)] rfl rfl (by decide) rfl ?_
        refine z_goto C 6 dX12_stays_50 rfl ?_
        exact z_lv _ [2, 3, 4, 5, 1, 0] rfl (hr6 _ a0 x1 x2 x3 y_1 (x5 + (1 : Int32)))
      · refine z_aload_n C 0 dX12_stays_25 rfl ?_
        refine z_iload_n C 1 dX12_stays_26 rfl ?_
        refine z_iload C 5 dX12_stays_27 rfl ?_
        refine z_iload_n C 3 dX12_stays_29 rfl ?_
        refine z_bind (fun _ q_4 => ?_)
        refine z_calli (z_runV (As := [.int x1, .int x5, .int x3]) (rest := [.int x4]) C mX12_176 (kX12_keeps N h a0 x1 x5 x3) q_4 (Nat.le_of_ble_eq_true rfl) ⟨Nat.zero_le _, Nat.zero_le _⟩ dX12_stays_30 rfl rfl (Nat.le_of_ble_eq_true rfl)) rfl (fun v_3 h_2 => ?_)
        refine z_ifeq C 43 dX12_stays_33 rfl ?_ ?_
        · refine z_iconst (v := (0 : Int32)) C dX12_stays_43 rfl ?_
          refine z_ior C dX12_stays_44 ?_
          refine z_nmI (fun y_5 => ?_)
          refine z_istore C dX12_stays_45 [(4, .int y_5), (0, .ref a0), (1, .int x1), (2, .int x2), (3, .int x3), (5, .int x5)] (by decide) rfl ?_
          refine z_iinc (v := x5 + (1 : Int32)) C 5 dX12_stays_47 [(5, .int (x5 + (1 : Int32))), (4, .int y_5), (0, .ref a0), (1, .int x1), (2, .int x2), (3, .int x3)] rfl rfl (by decide) rfl ?_
          refine z_goto C 6 dX12_stays_50 rfl ?_
          exact z_lv _ [2, 3, 4, 5, 1, 0] rfl (hr6 _ a0 x1 x2 x3 y_5 (x5 + (1 : Int32)))
        · refine z_iconst (v := (1 : Int32)) C dX12_stays_36 rfl ?_
          refine z_iload C 5 dX12_stays_37 rfl ?_
          refine z_ishl C dX12_stays_39 ?_
          refine z_goto C 44 dX12_stays_40 rfl ?_
          refine z_ior C dX12_stays_44 ?_
          refine z_nmI (fun y_6 => ?_)
          refine z_istore C dX12_stays_45 [(4, .int y_6), (0, .ref a0), (1, .int x1), (2, .int x2), (3, .int x3), (5, .int x5)] (by decide) rfl ?_
          refine z_iinc (v := x5 + (1 : Int32)) C 5 dX12_stays_47 [(5, .int (x5 + (1 : Int32))), (4, .int y_6), (0, .ref a0), (1, .int x1), (2, .int x2), (3, .int x3)] rfl rfl (by decide) rfl ?_
          refine z_goto C 6 dX12_stays_50 rfl ?_
          exact z_lv _ [2, 3, 4, 5, 1, 0] rfl (hr6 _ a0 x1 x2 x3 y_6 (x5 + (1 : Int32)))
def fX12_stays (N : Nat) (h : AH) (a0 : Nat) (x1 : Int32) (x2 : Int32) (x3 : Int32) : Option (Int32 × AH) :=
  zfix (fun _ _ _ _ _ _ _ => none) (bX12_stays_6 N) N h a0 x1 x2 x3 (0 : Int32) (0 : Int32)
theorem kX12_stays {l : Launch} {g : zG} (N : Nat) (h : AH) (a0 : Nat) (x1 : Int32) (x2 : Int32) (x3 : Int32) : zM l g yX12_stays cX12_stays 6 (some .int) (30) 0 0 (fun v : Int32 => some (.int v)) (fX12_stays N h a0 x1 x2 x3) h [.ref a0, .int x1, .int x2, .int x3] := by
  refine zM.of (lv0 := [(0, .ref a0), (1, .int x1), (2, .int x2), (3, .int x3)]) (by decide) (Nat.le_of_ble_eq_true rfl) rfl (fun X hX C => ?_)
  subst hX
  unfold fX12_stays
  refine z_iconst (v := (0 : Int32)) C dX12_stays_0 rfl ?_
  refine z_istore C dX12_stays_1 [(4, .int (0 : Int32)), (0, .ref a0), (1, .int x1), (2, .int x2), (3, .int x3)] (by decide) rfl ?_
  refine z_iconst (v := (0 : Int32)) C dX12_stays_3 rfl ?_
  refine z_istore C dX12_stays_4 [(5, .int (0 : Int32)), (4, .int (0 : Int32)), (0, .ref a0), (1, .int x1), (2, .int x2), (3, .int x3)] (by decide) rfl ?_
  exact z_lv _ [2, 3, 4, 5, 1, 0] rfl (tX12_stays_6 C N N _ a0 x1 x2 x3 (0 : Int32) (0 : Int32))
def bX12_blank_8 (N : Nat) (r8 : AH → Nat → Int32 → Int32 → Int32 → Option (Int32 × AH)) (h : AH) (a0 : Nat) (x1 : Int32) (x2 : Int32) (x3 : Int32) : Option (Int32 × AH) :=
  (if (60 : Int32) < x3 then
  some ((-5 : Int32), h)
  else
  (if x2 = (0) then
  some (x3, h)
  else
  (zgR h a0 12 0).bind fun a_1 =>
  (zald 0 h a_1 (79 : Int32)).bind fun v_2 =>
  (zis h a0 12).bind fun _ =>
  zcall (fX12_stays N h a0 x1 x2 (v_2 + x3)) fun v_4 h_3 =>
  r8 h_3 a0 x1 v_4 (x3 + (1 : Int32))))
theorem tX12_blank_8 {X : zX} {g : zG} (C : zC X g yX12_blank cX12_blank 4 31 0 0 (some .int)) (N : Nat) (n : Nat) : ∀ (h : AH) (a0 : Nat) (x1 : Int32) (x2 : Int32) (x3 : Int32), ZZ X g 4 (0, 0, 0, 0) (fun v : Int32 => some (.int v)) (zfix (fun _ _ _ _ _ => none) (bX12_blank_8 N) n h a0 x1 x2 x3) h 8 [(0, .ref a0), (1, .int x1), (2, .int x2), (3, .int x3)] [] := by
  induction n with
  | zero => intro h a0 x1 x2 x3; exact z_none
  | succ n hr8 =>
    intro h a0 x1 x2 x3
    show ZZ X g 4 (0, 0, 0, 0) _ (bX12_blank_8 N (zfix (fun _ _ _ _ _ => none) (bX12_blank_8 N) n) h a0 x1 x2 x3) h 8 _ _
    unfold bX12_blank_8
    refine z_iload_n C 3 dX12_blank_8 rfl ?_
    refine z_bipush (v := (60 : Int32)) C dX12_blank_9 rfl ?_
    refine z_icmpgt C 42 dX12_blank_11 rfl ?_ ?_
    · refine z_bipush (v := (-5 : Int32)) C dX12_blank_42 rfl ?_
      exact z_ireturn C ⟨rfl, rfl⟩ dX12_blank_44
    · refine z_iload_n C 2 dX12_blank_14 rfl ?_
      refine z_ifne C 20 dX12_blank_15 rfl ?_ ?_
      · refine z_aload_n C 0 dX12_blank_20 rfl ?_
        refine z_iload_n C 1 dX12_blank_21 rfl ?_
        refine z_iload_n C 2 dX12_blank_22 rfl ?_
        refine z_aload_n C 0 dX12_blank_23 rfl ?_
        refine z_getR C qX12_9 dX12_blank_24 (fun a_1 => ?_)
        refine z_bipush (v := (79 : Int32)) C dX12_blank_27 rfl ?_
        refine z_iaload C dX12_blank_29 (fun v_2 => ?_)
        refine z_iload_n C 3 dX12_blank_30 rfl ?_
        refine z_iadd C dX12_blank_31 ?_
        refine z_bind (fun _ q_5 => ?_)
        refine z_calli (z_runV (As := [.int x1, .int x2, .int (v_2 + x3)]) (rest := []) C mX12_179 (kX12_stays N h a0 x1 x2 (v_2 + x3)) q_5 (Nat.le_of_ble_eq_true rfl) ⟨Nat.zero_le _, Nat.zero_le _⟩ dX12_blank_32 rfl rfl (Nat.le_of_ble_eq_true rfl)) rfl (fun v_4 h_3 => ?_)
        refine z_istore_n C dX12_blank_35 [(2, .int v_4), (0, .ref a0), (1, .int x1), (3, .int x3)] (by decide) rfl ?_
        refine z_iinc (v := x3 + (1 : Int32)) C 3 dX12_blank_36 [(3, .int (x3 + (1 : Int32))), (2, .int v_4), (0, .ref a0), (1, .int x1)] rfl rfl (by decide) rfl ?_
        refine z_goto C 8 dX12_blank_39 rfl ?_
        exact z_lv _ [2, 3, 1, 0] rfl (hr8 _ a0 x1 v_4 (x3 + (1 : Int32)))
      · refine z_iload_n C 3 dX12_blank_18 rfl ?_
        exact z_ireturn C ⟨rfl, rfl⟩ dX12_blank_19
def fX12_blank (N : Nat) (h : AH) (a0 : Nat) (x1 : Int32) : Option (Int32 × AH) :=
  (zis h a0 12).bind fun _ =>
  zcall (fX12_mindOf N h a0 x1) fun v_2 h_1 =>
  zfix (fun _ _ _ _ _ => none) (bX12_blank_8 N) N h_1 a0 x1 v_2 (0 : Int32)
theorem kX12_blank {l : Launch} {g : zG} (N : Nat) (h : AH) (a0 : Nat) (x1 : Int32) : zM l g yX12_blank cX12_blank 4 (some .int) (31) 0 0 (fun v : Int32 => some (.int v)) (fX12_blank N h a0 x1) h [.ref a0, .int x1] := by
  refine zM.of (lv0 := [(0, .ref a0), (1, .int x1)]) (by decide) (Nat.le_of_ble_eq_true rfl) rfl (fun X hX C => ?_)
  subst hX
  unfold fX12_blank
  refine z_aload_n C 0 dX12_blank_0 rfl ?_
  refine z_iload_n C 1 dX12_blank_1 rfl ?_
  refine z_bind (fun _ q_3 => ?_)
  refine z_calli (z_runV (As := [.int x1]) (rest := []) C mX12_99 (kX12_mindOf N h a0 x1) q_3 (Nat.le_of_ble_eq_true rfl) ⟨Nat.zero_le _, Nat.zero_le _⟩ dX12_blank_2 rfl rfl (Nat.le_of_ble_eq_true rfl)) rfl (fun v_2 h_1 => ?_)
  refine z_istore_n C dX12_blank_5 [(2, .int v_2), (0, .ref a0), (1, .int x1)] (by decide) rfl ?_
  refine z_iconst (v := (0 : Int32)) C dX12_blank_6 rfl ?_
  refine z_istore_n C dX12_blank_7 [(3, .int (0 : Int32)), (2, .int v_2), (0, .ref a0), (1, .int x1)] (by decide) rfl ?_
  exact z_lv _ [2, 3, 1, 0] rfl (tX12_blank_8 C N N _ a0 x1 v_2 (0 : Int32))
def bX12_keptBy_2 (N : Nat) (r2 : AH → Nat → Int32 → Int32 → Int32 → Option (Int32 × AH)) (h : AH) (a0 : Nat) (x1 : Int32) (x2 : Int32) (x3 : Int32) : Option (Int32 × AH) :=
  (if (60 : Int32) ≤ x3 then
  some (x3, h)
  else
  (zgR h a0 12 0).bind fun a_1 =>
  (zald 0 h a_1 (79 : Int32)).bind fun v_2 =>
  (zis h a0 12).bind fun _ =>
  zcall (fX12_keeps N h a0 x1 x2 (v_2 + x3)) fun v_4 h_3 =>
  (if v_4 = (0) then
  some (x3, h_3)
  else
  r2 h_3 a0 x1 x2 (x3 + (1 : Int32))))
theorem tX12_keptBy_2 {X : zX} {g : zG} (C : zC X g yX12_keptBy cX12_keptBy 4 30 0 0 (some .int)) (N : Nat) (n : Nat) : ∀ (h : AH) (a0 : Nat) (x1 : Int32) (x2 : Int32) (x3 : Int32), ZZ X g 4 (0, 0, 0, 0) (fun v : Int32 => some (.int v)) (zfix (fun _ _ _ _ _ => none) (bX12_keptBy_2 N) n h a0 x1 x2 x3) h 2 [(0, .ref a0), (1, .int x1), (2, .int x2), (3, .int x3)] [] := by
  induction n with
  | zero => intro h a0 x1 x2 x3; exact z_none
  | succ n hr2 =>
    intro h a0 x1 x2 x3
    show ZZ X g 4 (0, 0, 0, 0) _ (bX12_keptBy_2 N (zfix (fun _ _ _ _ _ => none) (bX12_keptBy_2 N) n) h a0 x1 x2 x3) h 2 _ _
    unfold bX12_keptBy_2
    refine z_iload_n C 3 dX12_keptBy_2 rfl ?_
    refine z_bipush (v := (60 : Int32)) C dX12_keptBy_3 rfl ?_
    refine z_icmpge C 32 dX12_keptBy_5 rfl ?_ ?_
    · refine z_iload_n C 3 dX12_keptBy_32 rfl ?_
      exact z_ireturn C ⟨rfl, rfl⟩ dX12_keptBy_33
    · refine z_aload_n C 0 dX12_keptBy_8 rfl ?_
      refine z_iload_n C 1 dX12_keptBy_9 rfl ?_
      refine z_iload_n C 2 dX12_keptBy_10 rfl ?_
      refine z_aload_n C 0 dX12_keptBy_11 rfl ?_
      refine z_getR C qX12_9 dX12_keptBy_12 (fun a_1 => ?_)
      refine z_bipush (v := (79 : Int32)) C dX12_keptBy_15 rfl ?_
      refine z_iaload C dX12_keptBy_17 (fun v_2 => ?_)
      refine z_iload_n C 3 dX12_keptBy_18 rfl ?_
      refine z_iadd C dX12_keptBy_19 ?_
      refine z_bind (fun _ q_5 => ?_)
      refine z_calli (z_runV (As := [.int x1, .int x2, .int (v_2 + x3)]) (rest := []) C mX12_176 (kX12_keeps N h a0 x1 x2 (v_2 + x3)) q_5 (Nat.le_of_ble_eq_true rfl) ⟨Nat.zero_le _, Nat.zero_le _⟩ dX12_keptBy_20 rfl rfl (Nat.le_of_ble_eq_true rfl)) rfl (fun v_4 h_3 => ?_)
      refine z_ifeq C 32 dX12_keptBy_23 rfl ?_ ?_
      · refine z_iload_n C 3 dX12_keptBy_32 rfl ?_
        exact z_ireturn C ⟨rfl, rfl⟩ dX12_keptBy_33
      · refine z_iinc (v := x3 + (1 : Int32)) C 3 dX12_keptBy_26 [(3, .int (x3 + (1 : Int32))), (0, .ref a0), (1, .int x1), (2, .int x2)] rfl rfl (by decide) rfl ?_
        refine z_goto C 2 dX12_keptBy_29 rfl ?_
        exact z_lv _ [1, 2, 3, 0] rfl (hr2 _ a0 x1 x2 (x3 + (1 : Int32)))
def fX12_keptBy (N : Nat) (h : AH) (a0 : Nat) (x1 : Int32) (x2 : Int32) : Option (Int32 × AH) :=
  zfix (fun _ _ _ _ _ => none) (bX12_keptBy_2 N) N h a0 x1 x2 (0 : Int32)
theorem kX12_keptBy {l : Launch} {g : zG} (N : Nat) (h : AH) (a0 : Nat) (x1 : Int32) (x2 : Int32) : zM l g yX12_keptBy cX12_keptBy 4 (some .int) (30) 0 0 (fun v : Int32 => some (.int v)) (fX12_keptBy N h a0 x1 x2) h [.ref a0, .int x1, .int x2] := by
  refine zM.of (lv0 := [(0, .ref a0), (1, .int x1), (2, .int x2)]) (by decide) (Nat.le_of_ble_eq_true rfl) rfl (fun X hX C => ?_)
  subst hX
  unfold fX12_keptBy
  refine z_iconst (v := (0 : Int32)) C dX12_keptBy_0 rfl ?_
  refine z_istore_n C dX12_keptBy_1 [(3, .int (0 : Int32)), (0, .ref a0), (1, .int x1), (2, .int x2)] (by decide) rfl ?_
  exact z_lv _ [1, 2, 3, 0] rfl (tX12_keptBy_2 C N N _ a0 x1 x2 (0 : Int32))
def fX12_of (N : Nat) (h : AH) (a0 : Nat) (x1 : Int32) (x2 : Int32) : Option (Int32 × AH) :=
  (zis h a0 12).bind fun _ =>
  zcall (fX12_isMaster N h a0 x1) fun v_2 h_1 =>
  (if v_2 = (0) then
  some ((-1 : Int32), h_1)
  else
  zcall (fX12_isIn N h_1 x2 (0 : Int32) (2 : Int32)) fun v_5 h_4 =>
  (if v_5 = (0) then
  (if x2 = (3 : Int32) then
  (zis h_4 a0 12).bind fun _ =>
  zcall (fX12_blank N h_4 a0 x1) fun v_12 h_11 =>
  some (v_12, h_11)
  else
  zcall (fX12_isIn N h_4 x2 (10 : Int32) (17 : Int32)) fun v_7 h_6 =>
  (if v_7 = (0) then
  some ((-1 : Int32), h_6)
  else
  (zis h_6 a0 12).bind fun _ =>
  zcall (fX12_keptBy N h_6 a0 x1 (x2 - (10 : Int32))) fun v_9 h_8 =>
  some (v_9, h_8)))
  else
  (zgR h_4 a0 12 0).bind fun a_14 =>
  (zald 0 h_4 a_14 (((7 : Int32) * x1) + x2)).bind fun v_15 =>
  some (v_15, h_4)))
theorem kX12_of {l : Launch} {g : zG} (N : Nat) (h : AH) (a0 : Nat) (x1 : Int32) (x2 : Int32) : zM l g yX12_of cX12_of 3 (some .int) (32) 0 0 (fun v : Int32 => some (.int v)) (fX12_of N h a0 x1 x2) h [.ref a0, .int x1, .int x2] := by
  refine zM.of (lv0 := [(0, .ref a0), (1, .int x1), (2, .int x2)]) (by decide) (Nat.le_of_ble_eq_true rfl) rfl (fun X hX C => ?_)
  subst hX
  unfold fX12_of
  refine z_aload_n C 0 dX12_of_0 rfl ?_
  refine z_iload_n C 1 dX12_of_1 rfl ?_
  refine z_bind (fun _ q_3 => ?_)
  refine z_calli (z_runV (As := [.int x1]) (rest := []) C mX12_80 (kX12_isMaster N h a0 x1) q_3 (Nat.le_of_ble_eq_true rfl) ⟨Nat.zero_le _, Nat.zero_le _⟩ dX12_of_2 rfl rfl (Nat.le_of_ble_eq_true rfl)) rfl (fun v_2 h_1 => ?_)
  refine z_ifne C 10 dX12_of_5 rfl ?_ ?_
  · refine z_iload_n C 2 dX12_of_10 rfl ?_
    refine z_iconst (v := (0 : Int32)) C dX12_of_11 rfl ?_
    refine z_iconst (v := (2 : Int32)) C dX12_of_12 rfl ?_
    refine z_calli (z_runS (As := [.int x2, .int (0 : Int32), .int (2 : Int32)]) (rest := []) C mX12_76 (kX12_isIn N h_1 x2 (0 : Int32) (2 : Int32)) (Nat.le_of_ble_eq_true rfl) ⟨Nat.zero_le _, Nat.zero_le _⟩ dX12_of_13 rfl rfl (Nat.le_of_ble_eq_true rfl)) rfl (fun v_5 h_4 => ?_)
    refine z_ifeq C 31 dX12_of_16 rfl ?_ ?_
    · refine z_iload_n C 2 dX12_of_31 rfl ?_
      refine z_iconst (v := (3 : Int32)) C dX12_of_32 rfl ?_
      refine z_icmpne C 44 dX12_of_33 rfl ?_ ?_
      · refine z_iload_n C 2 dX12_of_44 rfl ?_
        refine z_bipush (v := (10 : Int32)) C dX12_of_45 rfl ?_
        refine z_bipush (v := (17 : Int32)) C dX12_of_47 rfl ?_
        refine z_calli (z_runS (As := [.int x2, .int (10 : Int32), .int (17 : Int32)]) (rest := []) C mX12_76 (kX12_isIn N h_4 x2 (10 : Int32) (17 : Int32)) (Nat.le_of_ble_eq_true rfl) ⟨Nat.zero_le _, Nat.zero_le _⟩ dX12_of_49 rfl rfl (Nat.le_of_ble_eq_true rfl)) rfl (fun v_7 h_6 => ?_)
        refine z_ifeq C 67 dX12_of_52 rfl ?_ ?_
        · refine z_iconst (v := (-1 : Int32)) C dX12_of_67 rfl ?_
          exact z_ireturn C ⟨rfl, rfl⟩ dX12_of_68
        · refine z_aload_n C 0 dX12_of_55 rfl ?_
          refine z_iload_n C 1 dX12_of_56 rfl ?_
          refine z_iload_n C 2 dX12_of_57 rfl ?_
          refine z_bipush (v := (10 : Int32)) C dX12_of_58 rfl ?_
          refine z_isub C dX12_of_60 ?_
          refine z_bind (fun _ q_10 => ?_)
          refine z_calli (z_runV (As := [.int x1, .int (x2 - (10 : Int32))]) (rest := []) C mX12_88 (kX12_keptBy N h_6 a0 x1 (x2 - (10 : Int32))) q_10 (Nat.le_of_ble_eq_true rfl) ⟨Nat.zero_le _, Nat.zero_le _⟩ dX12_of_61 rfl rfl (Nat.le_of_ble_eq_true rfl)) rfl (fun v_9 h_8 => ?_)
          refine z_goto C 68 dX12_of_64 rfl ?_
          exact z_ireturn C ⟨rfl, rfl⟩ dX12_of_68
      · refine z_aload_n C 0 dX12_of_36 rfl ?_
        refine z_iload_n C 1 dX12_of_37 rfl ?_
        refine z_bind (fun _ q_13 => ?_)
        refine z_calli (z_runV (As := [.int x1]) (rest := []) C mX12_84 (kX12_blank N h_4 a0 x1) q_13 (Nat.le_of_ble_eq_true rfl) ⟨Nat.zero_le _, Nat.zero_le _⟩ dX12_of_38 rfl rfl (Nat.le_of_ble_eq_true rfl)) rfl (fun v_12 h_11 => ?_)
        refine z_goto C 68 dX12_of_41 rfl ?_
        exact z_ireturn C ⟨rfl, rfl⟩ dX12_of_68
    · refine z_aload_n C 0 dX12_of_19 rfl ?_
      refine z_getR C qX12_9 dX12_of_20 (fun a_14 => ?_)
      refine z_bipush (v := (7 : Int32)) C dX12_of_23 rfl ?_
      refine z_iload_n C 1 dX12_of_25 rfl ?_
      refine z_imul C dX12_of_26 ?_
      refine z_iload_n C 2 dX12_of_27 rfl ?_
      refine z_iadd C dX12_of_28 ?_
      refine z_iaload C dX12_of_29 (fun v_15 => ?_)
      exact z_ireturn C ⟨rfl, rfl⟩ dX12_of_30
  · refine z_iconst (v := (-1 : Int32)) C dX12_of_8 rfl ?_
    exact z_ireturn C ⟨rfl, rfl⟩ dX12_of_9
def fX12_grip (N : Nat) (h : AH) (a0 : Nat) (x1 : Int32) (x2 : Int32) (x3 : Int32) : Option (Int32 × AH) :=
  (zis h a0 12).bind fun _ =>
  zcall (fX12_isMaster N h a0 x1) fun v_2 h_1 =>
  (if v_2 = (0) then
  some ((-10001 : Int32), h_1)
  else
  zcall (fX12_isFact N h_1 x2) fun v_5 h_4 =>
  (if v_5 = (0) then
  some ((-10001 : Int32), h_4)
  else
  zcall (fX12_isIn N h_4 x3 (0 : Int32) (60 : Int32)) fun v_7 h_6 =>
  (if v_7 = (0) then
  some ((-10002 : Int32), h_6)
  else
  (zgR h_6 a0 12 0).bind fun a_8 =>
  (zald 0 h_6 a_8 (79 : Int32)).bind fun v_9 =>
  (zis h_6 a0 12).bind fun _ =>
  zcall (fX12_gripOn N h_6 a0 x1 x2 (v_9 + x3)) fun v_11 h_10 =>
  some (v_11, h_10))))
theorem kX12_grip {l : Launch} {g : zG} (N : Nat) (h : AH) (a0 : Nat) (x1 : Int32) (x2 : Int32) (x3 : Int32) : zM l g yX12_grip cX12_grip 4 (some .int) (29) 0 0 (fun v : Int32 => some (.int v)) (fX12_grip N h a0 x1 x2 x3) h [.ref a0, .int x1, .int x2, .int x3] := by
  refine zM.of (lv0 := [(0, .ref a0), (1, .int x1), (2, .int x2), (3, .int x3)]) (by decide) (Nat.le_of_ble_eq_true rfl) rfl (fun X hX C => ?_)
  subst hX
  unfold fX12_grip
  refine z_aload_n C 0 dX12_grip_0 rfl ?_
  refine z_iload_n C 1 dX12_grip_1 rfl ?_
  refine z_bind (fun _ q_3 => ?_)
  refine z_calli (z_runV (As := [.int x1]) (rest := []) C mX12_80 (kX12_isMaster N h a0 x1) q_3 (Nat.le_of_ble_eq_true rfl) ⟨Nat.zero_le _, Nat.zero_le _⟩ dX12_grip_2 rfl rfl (Nat.le_of_ble_eq_true rfl)) rfl (fun v_2 h_1 => ?_)
  refine z_ifeq C 15 dX12_grip_5 rfl ?_ ?_
  · refine z_sipush (v := (-10001 : Int32)) C dX12_grip_15 rfl ?_
    exact z_ireturn C ⟨rfl, rfl⟩ dX12_grip_18
  · refine z_iload_n C 2 dX12_grip_8 rfl ?_
    refine z_calli (z_runS (As := [.int x2]) (rest := []) C mX12_92 (kX12_isFact N h_1 x2) (Nat.le_of_ble_eq_true rfl) ⟨Nat.zero_le _, Nat.zero_le _⟩ dX12_grip_9 rfl rfl (Nat.le_of_ble_eq_true rfl)) rfl (fun v_5 h_4 => ?_)
    refine z_ifne C 19 dX12_grip_12 rfl ?_ ?_
    · refine z_iload_n C 3 dX12_grip_19 rfl ?_
      refine z_iconst (v := (0 : Int32)) C dX12_grip_20 rfl ?_
      refine z_bipush (v := (60 : Int32)) C dX12_grip_21 rfl ?_
      refine z_calli (z_runS (As := [.int x3, .int (0 : Int32), .int (60 : Int32)]) (rest := []) C mX12_76 (kX12_isIn N h_4 x3 (0 : Int32) (60 : Int32)) (Nat.le_of_ble_eq_true rfl) ⟨Nat.zero_le _, Nat.zero_le _⟩ dX12_grip_23 rfl rfl (Nat.le_of_ble_eq_true rfl)) rfl (fun v_7 h_6 => ?_)
      refine z_ifeq C 47 dX12_grip_26 rfl ?_ ?_
      · refine z_sipush (v := (-10002 : Int32)) C dX12_grip_47 rfl ?_
        exact z_ireturn C ⟨rfl, rfl⟩ dX12_grip_50
      · refine z_aload_n C 0 dX12_grip_29 rfl ?_
        refine z_iload_n C 1 dX12_grip_30 rfl ?_
        refine z_iload_n C 2 dX12_grip_31 rfl ?_
        refine z_aload_n C 0 dX12_grip_32 rfl ?_
        refine z_getR C qX12_9 dX12_grip_33 (fun a_8 => ?_)
        refine z_bipush (v := (79 : Int32)) C dX12_grip_36 rfl ?_
        refine z_iaload C dX12_grip_38 (fun v_9 => ?_)
        refine z_iload_n C 3 dX12_grip_39 rfl ?_
        refine z_iadd C dX12_grip_40 ?_
        refine z_bind (fun _ q_12 => ?_)
        refine z_calli (z_runV (As := [.int x1, .int x2, .int (v_9 + x3)]) (rest := []) C mX12_95 (kX12_gripOn N h_6 a0 x1 x2 (v_9 + x3)) q_12 (Nat.le_of_ble_eq_true rfl) ⟨Nat.zero_le _, Nat.zero_le _⟩ dX12_grip_41 rfl rfl (Nat.le_of_ble_eq_true rfl)) rfl (fun v_11 h_10 => ?_)
        refine z_goto C 50 dX12_grip_44 rfl ?_
        exact z_ireturn C ⟨rfl, rfl⟩ dX12_grip_50
    · refine z_sipush (v := (-10001 : Int32)) C dX12_grip_15 rfl ?_
      exact z_ireturn C ⟨rfl, rfl⟩ dX12_grip_18
def fX12_tell (N : Nat) (h : AH) (a0 : Nat) (x1 : Int32) (x2 : Int32) : Option (Int32 × AH) :=
  (zis h a0 12).bind fun _ =>
  zcall (fX12_isMaster N h a0 x1) fun v_2 h_1 =>
  (if v_2 = (0) then
  some ((-1 : Int32), h_1)
  else
  zcall (fX12_isFact N h_1 x2) fun v_5 h_4 =>
  (if v_5 = (0) then
  some ((-1 : Int32), h_4)
  else
  (zgR h_4 a0 12 0).bind fun a_6 =>
  (zald 0 h_4 a_6 (((7 : Int32) * x1) + (2 : Int32))).bind fun v_7 =>
  (zast 0 h_4 a_6 (((7 : Int32) * x1) + (2 : Int32)) (v_7 ||| ((1 : Int32) <<< (x2 &&& 31)))).bind fun h_8 =>
  (zis h_8 a0 12).bind fun _ =>
  zcall (fX12_mindOf N h_8 a0 x1) fun v_10 h_9 =>
  some (v_10, h_9)))
theorem kX12_tell {l : Launch} {g : zG} (N : Nat) (h : AH) (a0 : Nat) (x1 : Int32) (x2 : Int32) : zM l g yX12_tell cX12_tell 3 (some .int) (3) 0 0 (fun v : Int32 => some (.int v)) (fX12_tell N h a0 x1 x2) h [.ref a0, .int x1, .int x2] := by
  refine zM.of (lv0 := [(0, .ref a0), (1, .int x1), (2, .int x2)]) (by decide) (Nat.le_of_ble_eq_true rfl) rfl (fun X hX C => ?_)
  subst hX
  unfold fX12_tell
  refine z_aload_n C 0 dX12_tell_0 rfl ?_
  refine z_iload_n C 1 dX12_tell_1 rfl ?_
  refine z_bind (fun _ q_3 => ?_)
  refine z_calli (z_runV (As := [.int x1]) (rest := []) C mX12_80 (kX12_isMaster N h a0 x1) q_3 (Nat.le_of_ble_eq_true rfl) ⟨Nat.zero_le _, Nat.zero_le _⟩ dX12_tell_2 rfl rfl (Nat.le_of_ble_eq_true rfl)) rfl (fun v_2 h_1 => ?_)
  refine z_ifeq C 15 dX12_tell_5 rfl ?_ ?_
  · refine z_iconst (v := (-1 : Int32)) C dX12_tell_15 rfl ?_
    exact z_ireturn C ⟨rfl, rfl⟩ dX12_tell_16
  · refine z_iload_n C 2 dX12_tell_8 rfl ?_
    refine z_calli (z_runS (As := [.int x2]) (rest := []) C mX12_92 (kX12_isFact N h_1 x2) (Nat.le_of_ble_eq_true rfl) ⟨Nat.zero_le _, Nat.zero_le _⟩ dX12_tell_9 rfl rfl (Nat.le_of_ble_eq_true rfl)) rfl (fun v_5 h_4 => ?_)
    refine z_ifne C 17 dX12_tell_12 rfl ?_ ?_
    · refine z_aload_n C 0 dX12_tell_17 rfl ?_
      refine z_getR C qX12_9 dX12_tell_18 (fun a_6 => ?_)
      refine z_bipush (v := (7 : Int32)) C dX12_tell_21 rfl ?_
      refine z_iload_n C 1 dX12_tell_23 rfl ?_
      refine z_imul C dX12_tell_24 ?_
      refine z_iconst (v := (2 : Int32)) C dX12_tell_25 rfl ?_
      refine z_iadd C dX12_tell_26 ?_
      refine z_dup2 C dX12_tell_27 rfl rfl ?_
      refine z_iaload C dX12_tell_28 (fun v_7 => ?_)
      refine z_iconst (v := (1 : Int32)) C dX12_tell_29 rfl ?_
      refine z_iload_n C 2 dX12_tell_30 rfl ?_
      refine z_ishl C dX12_tell_31 ?_
      refine z_ior C dX12_tell_32 ?_
      refine z_iastore C dX12_tell_33 (fun h_8 => ?_)
      refine z_aload_n C 0 dX12_tell_34 rfl ?_
      refine z_iload_n C 1 dX12_tell_35 rfl ?_
      refine z_bind (fun _ q_11 => ?_)
      refine z_calli (z_runV (As := [.int x1]) (rest := []) C mX12_99 (kX12_mindOf N h_8 a0 x1) q_11 (Nat.le_of_ble_eq_true rfl) ⟨Nat.zero_le _, Nat.zero_le _⟩ dX12_tell_36 rfl rfl (Nat.le_of_ble_eq_true rfl)) rfl (fun v_10 h_9 => ?_)
      exact z_ireturn C ⟨rfl, rfl⟩ dX12_tell_39
    · refine z_iconst (v := (-1 : Int32)) C dX12_tell_15 rfl ?_
      exact z_ireturn C ⟨rfl, rfl⟩ dX12_tell_16
def fX12_mind (N : Nat) (h : AH) (a0 : Nat) (x1 : Int32) (x2 : Int32) : Option (Int32 × AH) :=
  (zis h a0 12).bind fun _ =>
  zcall (fX12_isMaster N h a0 x1) fun v_2 h_1 =>
  (if v_2 = (0) then
  some ((-1 : Int32), h_1)
  else
  zcall (fX12_isSet N h_1 x2) fun v_5 h_4 =>
  (if v_5 = (0) then
  some ((-2 : Int32), h_4)
  else
  (zis h_4 a0 12).bind fun _ =>
  zcall (fX12_mindOf N h_4 a0 x1) fun v_7 h_6 =>
  (zgR h_6 a0 12 0).bind fun a_9 =>
  (zast 0 h_6 a_9 (((7 : Int32) * x1) + (2 : Int32)) x2).bind fun h_10 =>
  some (v_7, h_10)))
theorem kX12_mind {l : Launch} {g : zG} (N : Nat) (h : AH) (a0 : Nat) (x1 : Int32) (x2 : Int32) : zM l g yX12_mind cX12_mind 4 (some .int) (3) 0 0 (fun v : Int32 => some (.int v)) (fX12_mind N h a0 x1 x2) h [.ref a0, .int x1, .int x2] := by
  refine zM.of (lv0 := [(0, .ref a0), (1, .int x1), (2, .int x2)]) (by decide) (Nat.le_of_ble_eq_true rfl) rfl (fun X hX C => ?_)
  subst hX
  unfold fX12_mind
  refine z_aload_n C 0 dX12_mind_0 rfl ?_
  refine z_iload_n C 1 dX12_mind_1 rfl ?_
  refine z_bind (fun _ q_3 => ?_)
  refine z_calli (z_runV (As := [.int x1]) (rest := []) C mX12_80 (kX12_isMaster N h a0 x1) q_3 (Nat.le_of_ble_eq_true rfl) ⟨Nat.zero_le _, Nat.zero_le _⟩ dX12_mind_2 rfl rfl (Nat.le_of_ble_eq_true rfl)) rfl (fun v_2 h_1 => ?_)
  refine z_ifne C 10 dX12_mind_5 rfl ?_ ?_
  · refine z_iload_n C 2 dX12_mind_10 rfl ?_
    refine z_calli (z_runS (As := [.int x2]) (rest := []) C mX12_102 (kX12_isSet N h_1 x2) (Nat.le_of_ble_eq_true rfl) ⟨Nat.zero_le _, Nat.zero_le _⟩ dX12_mind_11 rfl rfl (Nat.le_of_ble_eq_true rfl)) rfl (fun v_5 h_4 => ?_)
    refine z_ifne C 20 dX12_mind_14 rfl ?_ ?_
    · refine z_aload_n C 0 dX12_mind_20 rfl ?_
      refine z_iload_n C 1 dX12_mind_21 rfl ?_
      refine z_bind (fun _ q_8 => ?_)
      refine z_calli (z_runV (As := [.int x1]) (rest := []) C mX12_99 (kX12_mindOf N h_4 a0 x1) q_8 (Nat.le_of_ble_eq_true rfl) ⟨Nat.zero_le _, Nat.zero_le _⟩ dX12_mind_22 rfl rfl (Nat.le_of_ble_eq_true rfl)) rfl (fun v_7 h_6 => ?_)
      refine z_istore_n C dX12_mind_25 [(3, .int v_7), (0, .ref a0), (1, .int x1), (2, .int x2)] (by decide) rfl ?_
      refine z_aload_n C 1 dX12_mind_26 rfl ?_
      refine z_getR C qX12_9 dX12_mind_27 (fun a_9 => ?_)
      refine z_bipush (v := (7 : Int32)) C dX12_mind_30 rfl ?_
      refine z_iload_n C 2 dX12_mind_32 rfl ?_
      refine z_imul C dX12_mind_33 ?_
      refine z_iconst (v := (2 : Int32)) C dX12_mind_34 rfl ?_
      refine z_iadd C dX12_mind_35 ?_
      refine z_iload_n C 3 dX12_mind_36 rfl ?_
      refine z_iastore C dX12_mind_37 (fun h_10 => ?_)
      refine z_iload_n C 0 dX12_mind_38 rfl ?_
      exact z_ireturn C ⟨rfl, rfl⟩ dX12_mind_39
    · refine z_bipush (v := (-2 : Int32)) C dX12_mind_17 rfl ?_
      exact z_ireturn C ⟨rfl, rfl⟩ dX12_mind_19
  · refine z_iconst (v := (-1 : Int32)) C dX12_mind_8 rfl ?_
    exact z_ireturn C ⟨rfl, rfl⟩ dX12_mind_9
def fX12_deed (N : Nat) (h : AH) (a0 : Nat) (x1 : Int32) (x2 : Int32) (x3 : Int32) : Option (Int32 × AH) :=
  (zis h a0 12).bind fun _ =>
  zcall (fX12_isMaster N h a0 x1) fun v_2 h_1 =>
  (if v_2 = (0) then
  some ((-1 : Int32), h_1)
  else
  zcall (fX12_isSet N h_1 x2) fun v_5 h_4 =>
  (if v_5 = (0) then
  some ((-2 : Int32), h_4)
  else
  zcall (fX12_isIn N h_4 x3 (0 : Int32) (20 : Int32)) fun v_7 h_6 =>
  (if v_7 = (0) then
  some ((-2 : Int32), h_6)
  else
  (zgR h_6 a0 12 0).bind fun a_8 =>
  (zald 0 h_6 a_8 (77 : Int32)).bind fun v_9 =>
  (if v_9 = (8 : Int32) then
  some ((-4 : Int32), h_6)
  else
  (zgR h_6 a0 12 0).bind fun a_10 =>
  (zast 0 h_6 a_10 ((42 : Int32) + ((3 : Int32) * v_9)) x1).bind fun h_11 =>
  (zgR h_11 a0 12 0).bind fun a_12 =>
  (zast 0 h_11 a_12 (((42 : Int32) + ((3 : Int32) * v_9)) + (1 : Int32)) x2).bind fun h_13 =>
  (zgR h_13 a0 12 0).bind fun a_14 =>
  (zast 0 h_13 a_14 (((42 : Int32) + ((3 : Int32) * v_9)) + (2 : Int32)) x3).bind fun h_15 =>
  (zgR h_15 a0 12 0).bind fun a_16 =>
  (zald 0 h_15 a_16 (77 : Int32)).bind fun v_17 =>
  (zast 0 h_15 a_16 (77 : Int32) (v_17 + (1 : Int32))).bind fun h_18 =>
  some (v_9, h_18)))))
theorem kX12_deed {l : Launch} {g : zG} (N : Nat) (h : AH) (a0 : Nat) (x1 : Int32) (x2 : Int32) (x3 : Int32) : zM l g yX12_deed cX12_deed 5 (some .int) (3) 0 0 (fun v : Int32 => some (.int v)) (fX12_deed N h a0 x1 x2 x3) h [.ref a0, .int x1, .int x2, .int x3] := by
  refine zM.of (lv0 := [(0, .ref a0), (1, .int x1), (2, .int x2), (3, .int x3)]) (by decide) (Nat.le_of_ble_eq_true rfl) rfl (fun X hX C => ?_)
  subst hX
  unfold fX12_deed
  refine z_aload_n C 0 dX12_deed_0 rfl ?_
  refine z_iload_n C 1 dX12_deed_1 rfl ?_
  refine z_bind (fun _ q_3 => ?_)
  refine z_calli (z_runV (As := [.int x1]) (rest := []) C mX12_80 (kX12_isMaster N h a0 x1) q_3 (Nat.le_of_ble_eq_true rfl) ⟨Nat.zero_le _, Nat.zero_le _⟩ dX12_deed_2 rfl rfl (Nat.le_of_ble_eq_true rfl)) rfl (fun v_2 h_1 => ?_)
  refine z_ifne C 10 dX12_deed_5 rfl ?_ ?_
  · refine z_iload_n C 2 dX12_deed_10 rfl ?_
    refine z_calli (z_runS (As := [.int x2]) (rest := []) C mX12_102 (kX12_isSet N h_1 x2) (Nat.le_of_ble_eq_true rfl) ⟨Nat.zero_le _, Nat.zero_le _⟩ dX12_deed_11 rfl rfl (Nat.le_of_ble_eq_true rfl)) rfl (fun v_5 h_4 => ?_)
    refine z_ifeq C 27 dX12_deed_14 rfl ?_ ?_
    · refine z_bipush (v := (-2 : Int32)) C dX12_deed_27 rfl ?_
      exact z_ireturn C ⟨rfl, rfl⟩ dX12_deed_29
    · refine z_iload_n C 3 dX12_deed_17 rfl ?_
      refine z_iconst (v := (0 : Int32)) C dX12_deed_18 rfl ?_
      refine z_bipush (v := (20 : Int32)) C dX12_deed_19 rfl ?_
      refine z_calli (z_runS (As := [.int x3, .int (0 : Int32), .int (20 : Int32)]) (rest := []) C mX12_76 (kX12_isIn N h_4 x3 (0 : Int32) (20 : Int32)) (Nat.le_of_ble_eq_true rfl) ⟨Nat.zero_le _, Nat.zero_le _⟩ dX12_deed_21 rfl rfl (Nat.le_of_ble_eq_true rfl)) rfl (fun v_7 h_6 => ?_)
      refine z_ifne C 30 dX12_deed_24 rfl ?_ ?_
      · refine z_aload_n C 0 dX12_deed_30 rfl ?_
        refine z_getR C qX12_9 dX12_deed_31 (fun a_8 => ?_)
        refine z_bipush (v := (77 : Int32)) C dX12_deed_34 rfl ?_
        refine z_iaload C dX12_deed_36 (fun v_9 => ?_)
        refine z_istore C dX12_deed_37 [(4, .int v_9), (0, .ref a0), (1, .int x1), (2, .int x2), (3, .int x3)] (by decide) rfl ?_
        refine z_iload C 0 dX12_deed_39 rfl ?_
        refine z_bipush (v := (8 : Int32)) C dX12_deed_41 rfl ?_
        refine z_icmpne C 49 dX12_deed_43 rfl ?_ ?_
        · refine z_aload_n C 1 dX12_deed_49 rfl ?_
          refine z_getR C qX12_9 dX12_deed_50 (fun a_10 => ?_)
          refine z_bipush (v := (42 : Int32)) C dX12_deed_53 rfl ?_
          refine z_iconst (v := (3 : Int32)) C dX12_deed_55 rfl ?_
          refine z_iload C 0 dX12_deed_56 rfl ?_
          refine z_imul C dX12_deed_58 ?_
          refine z_iadd C dX12_deed_59 ?_
          refine z_iload_n C 2 dX12_deed_60 rfl ?_
          refine z_iastore C dX12_deed_61 (fun h_11 => ?_)
          refine z_aload_n C 1 dX12_deed_62 rfl ?_
          refine z_getR C qX12_9 dX12_deed_63 (fun a_12 => ?_)
          refine z_bipush (v := (42 : Int32)) C dX12_deed_66 rfl ?_
          refine z_iconst (v := (3 : Int32)) C dX12_deed_68 rfl ?_
          refine z_iload C 0 dX12_deed_69 rfl ?_
          refine z_imul C dX12_deed_71 ?_
          refine z_iadd C dX12_deed_72 ?_
          refine z_iconst (v := (1 : Int32)) C dX12_deed_73 rfl ?_
          refine z_iadd C dX12_deed_74 ?_
          refine z_iload_n C 3 dX12_deed_75 rfl ?_
          refine z_iastore C dX12_deed_76 (fun h_13 => ?_)
          refine z_aload_n C 1 dX12_deed_77 rfl ?_
          refine z_getR C qX12_9 dX12_deed_78 (fun a_14 => ?_)
          refine z_bipush (v := (42 : Int32)) C dX12_deed_81 rfl ?_
          refine z_iconst (v := (3 : Int32)) C dX12_deed_83 rfl ?_
          refine z_iload C 0 dX12_deed_84 rfl ?_
          refine z_imul C dX12_deed_86 ?_
          refine z_iadd C dX12_deed_87 ?_
          refine z_iconst (v := (2 : Int32)) C dX12_deed_88 rfl ?_
          refine z_iadd C dX12_deed_89 ?_
          refine z_iload_n C 4 dX12_deed_90 rfl ?_
          refine z_iastore C dX12_deed_91 (fun h_15 => ?_)
          refine z_aload_n C 1 dX12_deed_92 rfl ?_
          refine z_getR C qX12_9 dX12_deed_93 (fun a_16 => ?_)
          refine z_bipush (v := (77 : Int32)) C dX12_deed_96 rfl ?_
          refine z_dup2 C dX12_deed_98 rfl rfl ?_
          refine z_iaload C dX12_deed_99 (fun v_17 => ?_)
          refine z_iconst (v := (1 : Int32)) C dX12_deed_100 rfl ?_
          refine z_iadd C dX12_deed_101 ?_
          refine z_iastore C dX12_deed_102 (fun h_18 => ?_)
          refine z_iload C 0 dX12_deed_103 rfl ?_
          exact z_ireturn C ⟨rfl, rfl⟩ dX12_deed_105
        · refine z_bipush (v := (-4 : Int32)) C dX12_deed_46 rfl ?_
          exact z_ireturn C ⟨rfl, rfl⟩ dX12_deed_48
      · refine z_bipush (v := (-2 : Int32)) C dX12_deed_27 rfl ?_
        exact z_ireturn C ⟨rfl, rfl⟩ dX12_deed_29
  · refine z_iconst (v := (-1 : Int32)) C dX12_deed_8 rfl ?_
    exact z_ireturn C ⟨rfl, rfl⟩ dX12_deed_9
def fX12_footman (N : Nat) (h : AH) (a0 : Nat) (x1 : Int32) : Option (Int32 × AH) :=
  zcall (fX12_isSet N h x1) fun v_2 h_1 =>
  (if v_2 = (0) then
  some ((-2 : Int32), h_1)
  else
  (zgR h_1 a0 12 0).bind fun a_3 =>
  (zald 0 h_1 a_3 (78 : Int32)).bind fun v_4 =>
  (if v_4 = (5 : Int32) then
  some ((-4 : Int32), h_1)
  else
  (zgR h_1 a0 12 0).bind fun a_5 =>
  (zast 0 h_1 a_5 ((66 : Int32) + ((2 : Int32) * v_4)) x1).bind fun h_6 =>
  (zgR h_6 a0 12 0).bind fun a_7 =>
  (zast 0 h_6 a_7 (((66 : Int32) + ((2 : Int32) * v_4)) + (1 : Int32)) (0 : Int32)).bind fun h_8 =>
  (zgR h_8 a0 12 0).bind fun a_9 =>
  (zald 0 h_8 a_9 (78 : Int32)).bind fun v_10 =>
  (zast 0 h_8 a_9 (78 : Int32) (v_10 + (1 : Int32))).bind fun h_11 =>
  some (v_4, h_11)))
theorem kX12_footman {l : Launch} {g : zG} (N : Nat) (h : AH) (a0 : Nat) (x1 : Int32) : zM l g yX12_footman cX12_footman 3 (some .int) (3) 0 0 (fun v : Int32 => some (.int v)) (fX12_footman N h a0 x1) h [.ref a0, .int x1] := by
  refine zM.of (lv0 := [(0, .ref a0), (1, .int x1)]) (by decide) (Nat.le_of_ble_eq_true rfl) rfl (fun X hX C => ?_)
  subst hX
  unfold fX12_footman
  refine z_iload_n C 1 dX12_footman_0 rfl ?_
  refine z_calli (z_runS (As := [.int x1]) (rest := []) C mX12_102 (kX12_isSet N h x1) (Nat.le_of_ble_eq_true rfl) ⟨Nat.zero_le _, Nat.zero_le _⟩ dX12_footman_1 rfl rfl (Nat.le_of_ble_eq_true rfl)) rfl (fun v_2 h_1 => ?_)
  refine z_ifne C 10 dX12_footman_4 rfl ?_ ?_
  · refine z_aload_n C 0 dX12_footman_10 rfl ?_
    refine z_getR C qX12_9 dX12_footman_11 (fun a_3 => ?_)
    refine z_bipush (v := (78 : Int32)) C dX12_footman_14 rfl ?_
    refine z_iaload C dX12_footman_16 (fun v_4 => ?_)
    refine z_istore_n C dX12_footman_17 [(2, .int v_4), (0, .ref a0), (1, .int x1)] (by decide) rfl ?_
    refine z_iload_n C 0 dX12_footman_18 rfl ?_
    refine z_iconst (v := (5 : Int32)) C dX12_footman_19 rfl ?_
    refine z_icmpne C 26 dX12_footman_20 rfl ?_ ?_
    · refine z_aload_n C 1 dX12_footman_26 rfl ?_
      refine z_getR C qX12_9 dX12_footman_27 (fun a_5 => ?_)
      refine z_bipush (v := (66 : Int32)) C dX12_footman_30 rfl ?_
      refine z_iconst (v := (2 : Int32)) C dX12_footman_32 rfl ?_
      refine z_iload_n C 0 dX12_footman_33 rfl ?_
      refine z_imul C dX12_footman_34 ?_
      refine z_iadd C dX12_footman_35 ?_
      refine z_iload_n C 2 dX12_footman_36 rfl ?_
      refine z_iastore C dX12_footman_37 (fun h_6 => ?_)
      refine z_aload_n C 1 dX12_footman_38 rfl ?_
      refine z_getR C qX12_9 dX12_footman_39 (fun a_7 => ?_)
      refine z_bipush (v := (66 : Int32)) C dX12_footman_42 rfl ?_
      refine z_iconst (v := (2 : Int32)) C dX12_footman_44 rfl ?_
      refine z_iload_n C 0 dX12_footman_45 rfl ?_
      refine z_imul C dX12_footman_46 ?_
      refine z_iadd C dX12_footman_47 ?_
      refine z_iconst (v := (1 : Int32)) C dX12_footman_48 rfl ?_
      refine z_iadd C dX12_footman_49 ?_
      refine z_iconst (v := (0 : Int32)) C dX12_footman_50 rfl ?_
      refine z_iastore C dX12_footman_51 (fun h_8 => ?_)
      refine z_aload_n C 1 dX12_footman_52 rfl ?_
      refine z_getR C qX12_9 dX12_footman_53 (fun a_9 => ?_)
      refine z_bipush (v := (78 : Int32)) C dX12_footman_56 rfl ?_
      refine z_dup2 C dX12_footman_58 rfl rfl ?_
      refine z_iaload C dX12_footman_59 (fun v_10 => ?_)
      refine z_iconst (v := (1 : Int32)) C dX12_footman_60 rfl ?_
      refine z_iadd C dX12_footman_61 ?_
      refine z_iastore C dX12_footman_62 (fun h_11 => ?_)
      refine z_iload_n C 0 dX12_footman_63 rfl ?_
      exact z_ireturn C ⟨rfl, rfl⟩ dX12_footman_64
    · refine z_bipush (v := (-4 : Int32)) C dX12_footman_23 rfl ?_
      exact z_ireturn C ⟨rfl, rfl⟩ dX12_footman_25
  · refine z_bipush (v := (-2 : Int32)) C dX12_footman_7 rfl ?_
    exact z_ireturn C ⟨rfl, rfl⟩ dX12_footman_9
def fX12_isFootman (N : Nat) (h : AH) (a0 : Nat) (x1 : Int32) : Option (Int32 × AH) :=
  (zgR h a0 12 0).bind fun a_1 =>
  (zald 0 h a_1 (78 : Int32)).bind fun v_2 =>
  zcall (fX12_isIn N h x1 (0 : Int32) (v_2 - (1 : Int32))) fun v_4 h_3 =>
  zret .boolean v_4 h_3
theorem kX12_isFootman {l : Launch} {g : zG} (N : Nat) (h : AH) (a0 : Nat) (x1 : Int32) : zM l g yX12_isFootman cX12_isFootman 2 (some .boolean) (2) 0 0 (fun v : Int32 => some (.int v)) (fX12_isFootman N h a0 x1) h [.ref a0, .int x1] := by
  refine zM.of (lv0 := [(0, .ref a0), (1, .int x1)]) (by decide) (Nat.le_of_ble_eq_true rfl) rfl (fun X hX C => ?_)
  subst hX
  unfold fX12_isFootman
  refine z_iload_n C 1 dX12_isFootman_0 rfl ?_
  refine z_iconst (v := (0 : Int32)) C dX12_isFootman_1 rfl ?_
  refine z_aload_n C 0 dX12_isFootman_2 rfl ?_
  refine z_getR C qX12_9 dX12_isFootman_3 (fun a_1 => ?_)
  refine z_bipush (v := (78 : Int32)) C dX12_isFootman_6 rfl ?_
  refine z_iaload C dX12_isFootman_8 (fun v_2 => ?_)
  refine z_iconst (v := (1 : Int32)) C dX12_isFootman_9 rfl ?_
  refine z_isub C dX12_isFootman_10 ?_
  refine z_calli (z_runS (As := [.int x1, .int (0 : Int32), .int (v_2 - (1 : Int32))]) (rest := []) C mX12_76 (kX12_isIn N h x1 (0 : Int32) (v_2 - (1 : Int32))) (Nat.le_of_ble_eq_true rfl) ⟨Nat.zero_le _, Nat.zero_le _⟩ dX12_isFootman_11 rfl rfl (Nat.le_of_ble_eq_true rfl)) rfl (fun v_4 h_3 => ?_)
  exact z_zreturn C ⟨rfl, rfl⟩ dX12_isFootman_14
def fX12_isOut (N : Nat) (h : AH) (a0 : Nat) (x1 : Int32) : Option (Int32 × AH) :=
  (zgR h a0 12 0).bind fun a_1 =>
  (zald 0 h a_1 (((66 : Int32) + ((2 : Int32) * x1)) + (1 : Int32))).bind fun v_2 =>
  (if v_2 = (1 : Int32) then
  zret .boolean (1 : Int32) h
  else
  zret .boolean (0 : Int32) h)
theorem kX12_isOut {l : Launch} {g : zG} (N : Nat) (h : AH) (a0 : Nat) (x1 : Int32) : zM l g yX12_isOut cX12_isOut 2 (some .boolean) (1) 0 0 (fun v : Int32 => some (.int v)) (fX12_isOut N h a0 x1) h [.ref a0, .int x1] := by
  refine zM.of (lv0 := [(0, .ref a0), (1, .int x1)]) (by decide) (Nat.le_of_ble_eq_true rfl) rfl (fun X hX C => ?_)
  subst hX
  unfold fX12_isOut
  refine z_aload_n C 0 dX12_isOut_0 rfl ?_
  refine z_getR C qX12_9 dX12_isOut_1 (fun a_1 => ?_)
  refine z_bipush (v := (66 : Int32)) C dX12_isOut_4 rfl ?_
  refine z_iconst (v := (2 : Int32)) C dX12_isOut_6 rfl ?_
  refine z_iload_n C 1 dX12_isOut_7 rfl ?_
  refine z_imul C dX12_isOut_8 ?_
  refine z_iadd C dX12_isOut_9 ?_
  refine z_iconst (v := (1 : Int32)) C dX12_isOut_10 rfl ?_
  refine z_iadd C dX12_isOut_11 ?_
  refine z_iaload C dX12_isOut_12 (fun v_2 => ?_)
  refine z_iconst (v := (1 : Int32)) C dX12_isOut_13 rfl ?_
  refine z_icmpne C 21 dX12_isOut_14 rfl ?_ ?_
  · refine z_iconst (v := (0 : Int32)) C dX12_isOut_21 rfl ?_
    exact z_zreturn C ⟨rfl, rfl⟩ dX12_isOut_22
  · refine z_iconst (v := (1 : Int32)) C dX12_isOut_17 rfl ?_
    refine z_goto C 22 dX12_isOut_18 rfl ?_
    exact z_zreturn C ⟨rfl, rfl⟩ dX12_isOut_22
def fX12_out (N : Nat) (h : AH) (a0 : Nat) (x1 : Int32) (x2 : Int32) : Option (Int32 × AH) :=
  (zis h a0 12).bind fun _ =>
  zcall (fX12_isFootman N h a0 x1) fun v_2 h_1 =>
  (if v_2 = (0) then
  some ((-1 : Int32), h_1)
  else
  (zgR h_1 a0 12 0).bind fun a_4 =>
  (zald 0 h_1 a_4 (((66 : Int32) + ((2 : Int32) * x1)) + (1 : Int32))).bind fun v_5 =>
  (zgR h_1 a0 12 0).bind fun a_6 =>
  (if x2 = (0) then
  (zast 0 h_1 a_6 (((66 : Int32) + ((2 : Int32) * x1)) + (1 : Int32)) (0 : Int32)).bind fun h_7 =>
  some (v_5, h_7)
  else
  (zast 0 h_1 a_6 (((66 : Int32) + ((2 : Int32) * x1)) + (1 : Int32)) (1 : Int32)).bind fun h_8 =>
  some (v_5, h_8)))
theorem kX12_out {l : Launch} {g : zG} (N : Nat) (h : AH) (a0 : Nat) (x1 : Int32) (x2 : Int32) : zM l g yX12_out cX12_out 4 (some .int) (3) 0 0 (fun v : Int32 => some (.int v)) (fX12_out N h a0 x1 x2) h [.ref a0, .int x1, .int x2] := by
  refine zM.of (lv0 := [(0, .ref a0), (1, .int x1), (2, .int x2)]) (by decide) (Nat.le_of_ble_eq_true rfl) rfl (fun X hX C => ?_)
  subst hX
  unfold fX12_out
  refine z_aload_n C 0 dX12_out_0 rfl ?_
  refine z_iload_n C 1 dX12_out_1 rfl ?_
  refine z_bind (fun _ q_3 => ?_)
  refine z_calli (z_runV (As := [.int x1]) (rest := []) C mX12_105 (kX12_isFootman N h a0 x1) q_3 (Nat.le_of_ble_eq_true rfl) ⟨Nat.zero_le _, Nat.zero_le _⟩ dX12_out_2 rfl rfl (Nat.le_of_ble_eq_true rfl)) rfl (fun v_2 h_1 => ?_)
  refine z_ifne C 10 dX12_out_5 rfl ?_ ?_
  · refine z_aload_n C 0 dX12_out_10 rfl ?_
    refine z_getR C qX12_9 dX12_out_11 (fun a_4 => ?_)
    refine z_bipush (v := (66 : Int32)) C dX12_out_14 rfl ?_
    refine z_iconst (v := (2 : Int32)) C dX12_out_16 rfl ?_
    refine z_iload_n C 1 dX12_out_17 rfl ?_
    refine z_imul C dX12_out_18 ?_
    refine z_iadd C dX12_out_19 ?_
    refine z_iconst (v := (1 : Int32)) C dX12_out_20 rfl ?_
    refine z_iadd C dX12_out_21 ?_
    refine z_iaload C dX12_out_22 (fun v_5 => ?_)
    refine z_istore_n C dX12_out_23 [(3, .int v_5), (0, .ref a0), (1, .int x1), (2, .int x2)] (by decide) rfl ?_
    refine z_aload_n C 1 dX12_out_24 rfl ?_
    refine z_getR C qX12_9 dX12_out_25 (fun a_6 => ?_)
    refine z_bipush (v := (66 : Int32)) C dX12_out_28 rfl ?_
    refine z_iconst (v := (2 : Int32)) C dX12_out_30 rfl ?_
    refine z_iload_n C 2 dX12_out_31 rfl ?_
    refine z_imul C dX12_out_32 ?_
    refine z_iadd C dX12_out_33 ?_
    refine z_iconst (v := (1 : Int32)) C dX12_out_34 rfl ?_
    refine z_iadd C dX12_out_35 ?_
    refine z_iload_n C 3 dX12_out_36 rfl ?_
    refine z_ifeq C 44 dX12_out_37 rfl ?_ ?_
    · refine z_iconst (v := (0 : Int32)) C dX12_out_44 rfl ?_
      refine z_iastore C dX12_out_45 (fun h_7 => ?_)
      refine z_iload_n C 0 dX12_out_46 rfl ?_
      exact z_ireturn C ⟨rfl, rfl⟩ dX12_out_47
    · refine z_iconst (v := (1 : Int32)) C dX12_out_40 rfl ?_
      refine z_goto C 45 dX12_out_41 rfl ?_
      refine z_iastore C dX12_out_45 (fun h_8 => ?_)
      refine z_iload_n C 0 dX12_out_46 rfl ?_
      exact z_ireturn C ⟨rfl, rfl⟩ dX12_out_47
  · refine z_iconst (v := (-1 : Int32)) C dX12_out_8 rfl ?_
    exact z_ireturn C ⟨rfl, rfl⟩ dX12_out_9
def fX12_row (N : Nat) (h : AH) (a0 : Nat) (x1 : Int32) (x2 : Int32) (x3 : Int32) : Option (Int32 × AH) :=
  (zis h a0 12).bind fun _ =>
  zcall (fX12_isMaster N h a0 x1) fun v_2 h_1 =>
  (if v_2 = (0) then
  some ((-1 : Int32), h_1)
  else
  zcall (fX12_isIn N h_1 x2 (0 : Int32) (3 : Int32)) fun v_5 h_4 =>
  (if v_5 = (0) then
  some ((-1 : Int32), h_4)
  else
  zcall (fX12_isIn N h_4 x3 (0 : Int32) (9 : Int32)) fun v_7 h_6 =>
  (if v_7 = (0) then
  some ((-2 : Int32), h_6)
  else
  (zis h_6 a0 12).bind fun _ =>
  zcall (fX12_kind N h_6 a0 x1) fun v_9 h_8 =>
  (if v_9 = (6 : Int32) then
  (zgR h_8 a0 12 0).bind fun a_11 =>
  (zald 0 h_8 a_11 ((((7 : Int32) * x1) + (3 : Int32)) + x2)).bind fun v_12 =>
  (zgR h_8 a0 12 0).bind fun a_13 =>
  (zast 0 h_8 a_13 ((((7 : Int32) * x1) + (3 : Int32)) + x2) x3).bind fun h_14 =>
  some (v_12, h_14)
  else
  some ((-3 : Int32), h_8)))))
theorem kX12_row {l : Launch} {g : zG} (N : Nat) (h : AH) (a0 : Nat) (x1 : Int32) (x2 : Int32) (x3 : Int32) : zM l g yX12_row cX12_row 5 (some .int) (3) 0 0 (fun v : Int32 => some (.int v)) (fX12_row N h a0 x1 x2 x3) h [.ref a0, .int x1, .int x2, .int x3] := by
  refine zM.of (lv0 := [(0, .ref a0), (1, .int x1), (2, .int x2), (3, .int x3)]) (by decide) (Nat.le_of_ble_eq_true rfl) rfl (fun X hX C => ?_)
  subst hX
  unfold fX12_row
  refine z_aload_n C 0 dX12_row_0 rfl ?_
  refine z_iload_n C 1 dX12_row_1 rfl ?_
  refine z_bind (fun _ q_3 => ?_)
  refine z_calli (z_runV (As := [.int x1]) (rest := []) C mX12_80 (kX12_isMaster N h a0 x1) q_3 (Nat.le_of_ble_eq_true rfl) ⟨Nat.zero_le _, Nat.zero_le _⟩ dX12_row_2 rfl rfl (Nat.le_of_ble_eq_true rfl)) rfl (fun v_2 h_1 => ?_)
  refine z_ifeq C 17 dX12_row_5 rfl ?_ ?_
  · refine z_iconst (v := (-1 : Int32)) C dX12_row_17 rfl ?_
    exact z_ireturn C ⟨rfl, rfl⟩ dX12_row_18
  · refine z_iload_n C 2 dX12_row_8 rfl ?_
    refine z_iconst (v := (0 : Int32)) C dX12_row_9 rfl ?_
    refine z_iconst (v := (3 : Int32)) C dX12_row_10 rfl ?_
    refine z_calli (z_runS (As := [.int x2, .int (0 : Int32), .int (3 : Int32)]) (rest := []) C mX12_76 (kX12_isIn N h_1 x2 (0 : Int32) (3 : Int32)) (Nat.le_of_ble_eq_true rfl) ⟨Nat.zero_le _, Nat.zero_le _⟩ dX12_row_11 rfl rfl (Nat.le_of_ble_eq_true rfl)) rfl (fun v_5 h_4 => ?_)
    refine z_ifne C 19 dX12_row_14 rfl ?_ ?_
    · refine z_iload_n C 3 dX12_row_19 rfl ?_
      refine z_iconst (v := (0 : Int32)) C dX12_row_20 rfl ?_
      refine z_bipush (v := (9 : Int32)) C dX12_row_21 rfl ?_
      refine z_calli (z_runS (As := [.int x3, .int (0 : Int32), .int (9 : Int32)]) (rest := []) C mX12_76 (kX12_isIn N h_4 x3 (0 : Int32) (9 : Int32)) (Nat.le_of_ble_eq_true rfl) ⟨Nat.zero_le _, Nat.zero_le _⟩ dX12_row_23 rfl rfl (Nat.le_of_ble_eq_true rfl)) rfl (fun v_7 h_6 => ?_)
      refine z_ifne C 32 dX12_row_26 rfl ?_ ?_
      · refine z_aload_n C 0 dX12_row_32 rfl ?_
        refine z_iload_n C 1 dX12_row_33 rfl ?_
        refine z_bind (fun _ q_10 => ?_)
        refine z_calli (z_runV (As := [.int x1]) (rest := []) C mX12_108 (kX12_kind N h_6 a0 x1) q_10 (Nat.le_of_ble_eq_true rfl) ⟨Nat.zero_le _, Nat.zero_le _⟩ dX12_row_34 rfl rfl (Nat.le_of_ble_eq_true rfl)) rfl (fun v_9 h_8 => ?_)
        refine z_bipush (v := (6 : Int32)) C dX12_row_37 rfl ?_
        refine z_icmpeq C 45 dX12_row_39 rfl ?_ ?_
        · refine z_aload_n C 0 dX12_row_45 rfl ?_
          refine z_getR C qX12_9 dX12_row_46 (fun a_11 => ?_)
          refine z_bipush (v := (7 : Int32)) C dX12_row_49 rfl ?_
          refine z_iload_n C 1 dX12_row_51 rfl ?_
          refine z_imul C dX12_row_52 ?_
          refine z_iconst (v := (3 : Int32)) C dX12_row_53 rfl ?_
          refine z_iadd C dX12_row_54 ?_
          refine z_iload_n C 2 dX12_row_55 rfl ?_
          refine z_iadd C dX12_row_56 ?_
          refine z_iaload C dX12_row_57 (fun v_12 => ?_)
          refine z_istore C dX12_row_58 [(4, .int v_12), (0, .ref a0), (1, .int x1), (2, .int x2), (3, .int x3)] (by decide) rfl ?_
          refine z_aload_n C 1 dX12_row_60 rfl ?_
          refine z_getR C qX12_9 dX12_row_61 (fun a_13 => ?_)
          refine z_bipush (v := (7 : Int32)) C dX12_row_64 rfl ?_
          refine z_iload_n C 2 dX12_row_66 rfl ?_
          refine z_imul C dX12_row_67 ?_
          refine z_iconst (v := (3 : Int32)) C dX12_row_68 rfl ?_
          refine z_iadd C dX12_row_69 ?_
          refine z_iload_n C 3 dX12_row_70 rfl ?_
          refine z_iadd C dX12_row_71 ?_
          refine z_iload_n C 4 dX12_row_72 rfl ?_
          refine z_iastore C dX12_row_73 (fun h_14 => ?_)
          refine z_iload C 0 dX12_row_74 rfl ?_
          exact z_ireturn C ⟨rfl, rfl⟩ dX12_row_76
        · refine z_bipush (v := (-3 : Int32)) C dX12_row_42 rfl ?_
          exact z_ireturn C ⟨rfl, rfl⟩ dX12_row_44
      · refine z_bipush (v := (-2 : Int32)) C dX12_row_29 rfl ?_
        exact z_ireturn C ⟨rfl, rfl⟩ dX12_row_31
    · refine z_iconst (v := (-1 : Int32)) C dX12_row_17 rfl ?_
      exact z_ireturn C ⟨rfl, rfl⟩ dX12_row_18
def fX12_feed (N : Nat) (h : AH) (a0 : Nat) (x1 : Int32) : Option (Int32 × AH) :=
  zcall (fX12_isIn N h x1 (0 : Int32) (127 : Int32)) fun v_2 h_1 =>
  (if v_2 = (0) then
  some ((-2 : Int32), h_1)
  else
  (zgI h_1 a0 12 5).bind fun v_3 =>
  (if v_3 = (100 : Int32) then
  some ((-4 : Int32), h_1)
  else
  (zgR h_1 a0 12 4).bind fun a_4 =>
  (zgI h_1 a0 12 5).bind fun v_5 =>
  (zast 0 h_1 a_4 v_5 x1).bind fun h_6 =>
  (zgI h_6 a0 12 5).bind fun v_7 =>
  (zput h_6 a0 12 5 (.int (v_7 + (1 : Int32)))).bind fun h_8 =>
  (zgI h_8 a0 12 5).bind fun v_9 =>
  some (v_9, h_8)))
theorem kX12_feed {l : Launch} {g : zG} (N : Nat) (h : AH) (a0 : Nat) (x1 : Int32) : zM l g yX12_feed cX12_feed 2 (some .int) (2) 0 0 (fun v : Int32 => some (.int v)) (fX12_feed N h a0 x1) h [.ref a0, .int x1] := by
  refine zM.of (lv0 := [(0, .ref a0), (1, .int x1)]) (by decide) (Nat.le_of_ble_eq_true rfl) rfl (fun X hX C => ?_)
  subst hX
  unfold fX12_feed
  refine z_iload_n C 1 dX12_feed_0 rfl ?_
  refine z_iconst (v := (0 : Int32)) C dX12_feed_1 rfl ?_
  refine z_bipush (v := (127 : Int32)) C dX12_feed_2 rfl ?_
  refine z_calli (z_runS (As := [.int x1, .int (0 : Int32), .int (127 : Int32)]) (rest := []) C mX12_76 (kX12_isIn N h x1 (0 : Int32) (127 : Int32)) (Nat.le_of_ble_eq_true rfl) ⟨Nat.zero_le _, Nat.zero_le _⟩ dX12_feed_4 rfl rfl (Nat.le_of_ble_eq_true rfl)) rfl (fun v_2 h_1 => ?_)
  refine z_ifne C 13 dX12_feed_7 rfl ?_ ?_
  · refine z_aload_n C 0 dX12_feed_13 rfl ?_
    refine z_getI C qX12_111 dX12_feed_14 (fun v_3 => ?_)
    refine z_bipush (v := (100 : Int32)) C dX12_feed_17 rfl ?_
    refine z_icmpne C 25 dX12_feed_19 rfl ?_ ?_
    · refine z_aload_n C 0 dX12_feed_25 rfl ?_
      refine z_getR C qX12_21 dX12_feed_26 (fun a_4 => ?_)
      refine z_aload_n C 0 dX12_feed_29 rfl ?_
      refine z_getI C qX12_111 dX12_feed_30 (fun v_5 => ?_)
      refine z_iload_n C 1 dX12_feed_33 rfl ?_
      refine z_iastore C dX12_feed_34 (fun h_6 => ?_)
      refine z_aload_n C 0 dX12_feed_35 rfl ?_
      refine z_dup C dX12_feed_36 rfl ?_
      refine z_getI C qX12_111 dX12_feed_37 (fun v_7 => ?_)
      refine z_iconst (v := (1 : Int32)) C dX12_feed_40 rfl ?_
      refine z_iadd C dX12_feed_41 ?_
      refine z_putI C pX12_111 dX12_feed_42 (fun h_8 => ?_)
      refine z_aload_n C 0 dX12_feed_45 rfl ?_
      refine z_getI C qX12_111 dX12_feed_46 (fun v_9 => ?_)
      exact z_ireturn C ⟨rfl, rfl⟩ dX12_feed_49
    · refine z_bipush (v := (-4 : Int32)) C dX12_feed_22 rfl ?_
      exact z_ireturn C ⟨rfl, rfl⟩ dX12_feed_24
  · refine z_bipush (v := (-2 : Int32)) C dX12_feed_10 rfl ?_
    exact z_ireturn C ⟨rfl, rfl⟩ dX12_feed_12
def bX12_house_70 (N : Nat) (r70 : AH → Nat → Int32 → Option (Int32 × AH)) (h : AH) (a0 : Nat) (x1 : Int32) : Option (Int32 × AH) :=
  (zgI h a0 12 10).bind fun v_1 =>
  (if v_1 ≤ x1 then
  (zgR h a0 12 7).bind fun a_2 =>
  (zgI h a0 12 8).bind fun v_3 =>
  (zgI h a0 12 10).bind fun v_4 =>
  (zast 0 h a_2 v_3 v_4).bind fun h_5 =>
  (zgI h_5 a0 12 8).bind fun v_6 =>
  (zput h_5 a0 12 8 (.int (v_6 + (1 : Int32)))).bind fun h_7 =>
  (zgR h_7 a0 12 0).bind fun a_8 =>
  (zgI h_7 a0 12 8).bind fun v_9 =>
  (zast 0 h_7 a_8 (80 : Int32) v_9).bind fun h_10 =>
  (zgI h_10 a0 12 8).bind fun v_11 =>
  some (v_11 - (1 : Int32), h_10)
  else
  (zgR h a0 12 6).bind fun a_12 =>
  (zgI h a0 12 8).bind fun v_13 =>
  (zgR h a0 12 9).bind fun a_14 =>
  (zald 0 h a_14 x1).bind fun v_15 =>
  (zast 0 h a_12 (((100 : Int32) * v_13) + x1) v_15).bind fun h_16 =>
  r70 h_16 a0 (x1 + (1 : Int32)))
theorem tX12_house_70 {X : zX} {g : zG} (C : zC X g yX12_house cX12_house 2 27 0 0 (some .int)) (N : Nat) (n : Nat) : ∀ (h : AH) (a0 : Nat) (x1 : Int32), ZZ X g 2 (0, 0, 0, 0) (fun v : Int32 => some (.int v)) (zfix (fun _ _ _ => none) (bX12_house_70 N) n h a0 x1) h 70 [(0, .ref a0), (1, .int x1)] [] := by
  induction n with
  | zero => intro h a0 x1; exact z_none
  | succ n hr70 =>
    intro h a0 x1
    show ZZ X g 2 (0, 0, 0, 0) _ (bX12_house_70 N (zfix (fun _ _ _ => none) (bX12_house_70 N) n) h a0 x1) h 70 _ _
    unfold bX12_house_70
    refine z_iload_n C 1 dX12_house_70 rfl ?_
    refine z_aload_n C 0 dX12_house_71 rfl ?_
    refine z_getI C qX12_121 dX12_house_72 (fun v_1 => ?_)
    refine z_icmpge C 104 dX12_house_75 rfl ?_ ?_
    · refine z_aload_n C 0 dX12_house_104 rfl ?_
      refine z_getR C qX12_27 dX12_house_105 (fun a_2 => ?_)
      refine z_aload_n C 0 dX12_house_108 rfl ?_
      refine z_getI C qX12_169 dX12_house_109 (fun v_3 => ?_)
      refine z_aload_n C 0 dX12_house_112 rfl ?_
      refine z_getI C qX12_121 dX12_house_113 (fun v_4 => ?_)
      refine z_iastore C dX12_house_116 (fun h_5 => ?_)
      refine z_aload_n C 0 dX12_house_117 rfl ?_
      refine z_dup C dX12_house_118 rfl ?_
      refine z_getI C qX12_169 dX12_house_119 (fun v_6 => ?_)
      refine z_iconst (v := (1 : Int32)) C dX12_house_122 rfl ?_
      refine z_iadd C dX12_house_123 ?_
      refine z_putI C pX12_169 dX12_house_124 (fun h_7 => ?_)
      refine z_aload_n C 0 dX12_house_127 rfl ?_
      refine z_getR C qX12_9 dX12_house_128 (fun a_8 => ?_)
      refine z_bipush (v := (80 : Int32)) C dX12_house_131 rfl ?_
      refine z_aload_n C 0 dX12_house_133 rfl ?_
      refine z_getI C qX12_169 dX12_house_134 (fun v_9 => ?_)
      refine z_iastore C dX12_house_137 (fun h_10 => ?_)
      refine z_aload_n C 0 dX12_house_138 rfl ?_
      refine z_getI C qX12_169 dX12_house_139 (fun v_11 => ?_)
      refine z_iconst (v := (1 : Int32)) C dX12_house_142 rfl ?_
      refine z_isub C dX12_house_143 ?_
      exact z_ireturn C ⟨rfl, rfl⟩ dX12_house_144
    · refine z_aload_n C 0 dX12_house_78 rfl ?_
      refine z_getR C qX12_24 dX12_house_79 (fun a_12 => ?_)
      refine z_bipush (v := (100 : Int32)) C dX12_house_82 rfl ?_
      refine z_aload_n C 0 dX12_house_84 rfl ?_
      refine z_getI C qX12_169 dX12_house_85 (fun v_13 => ?_)
      refine z_imul C dX12_house_88 ?_
      refine z_iload_n C 1 dX12_house_89 rfl ?_
      refine z_iadd C dX12_house_90 ?_
      refine z_aload_n C 0 dX12_house_91 rfl ?_
      refine z_getR C qX12_30 dX12_house_92 (fun a_14 => ?_)
      refine z_iload_n C 1 dX12_house_95 rfl ?_
      refine z_iaload C dX12_house_96 (fun v_15 => ?_)
      refine z_iastore C dX12_house_97 (fun h_16 => ?_)
      refine z_iinc (v := x1 + (1 : Int32)) C 1 dX12_house_98 [(1, .int (x1 + (1 : Int32))), (0, .ref a0)] rfl rfl (by decide) rfl ?_
      refine z_goto C 70 dX12_house_101 rfl ?_
      exact z_lv _ [1, 0] rfl (hr70 _ a0 (x1 + (1 : Int32)))
def bX12_house_22 (N : Nat) (r22 : AH → Nat → Int32 → Option (Int32 × AH)) (h : AH) (a0 : Nat) (x1 : Int32) : Option (Int32 × AH) :=
  (zgI h a0 12 10).bind fun v_1 =>
  (if v_1 ≤ x1 then
  (zput h a0 12 5 (.int (0 : Int32))).bind fun h_2 =>
  (zis h_2 a0 12).bind fun _ =>
  zcall (fX12_readAll N h_2 a0) fun v_4 h_3 =>
  (if v_4 = (0) then
  (zgI h_3 a0 12 11).bind fun v_6 =>
  some ((-10 : Int32) - v_6, h_3)
  else
  zfix (fun _ _ _ => none) (bX12_house_70 N) N h_3 a0 (0 : Int32))
  else
  (zgR h a0 12 9).bind fun a_7 =>
  (zgR h a0 12 4).bind fun a_8 =>
  (zald 0 h a_8 x1).bind fun v_9 =>
  (zast 0 h a_7 x1 v_9).bind fun h_10 =>
  r22 h_10 a0 (x1 + (1 : Int32)))
theorem tX12_house_22 {X : zX} {g : zG} (C : zC X g yX12_house cX12_house 2 27 0 0 (some .int)) (N : Nat) (n : Nat) : ∀ (h : AH) (a0 : Nat) (x1 : Int32), ZZ X g 2 (0, 0, 0, 0) (fun v : Int32 => some (.int v)) (zfix (fun _ _ _ => none) (bX12_house_22 N) n h a0 x1) h 22 [(0, .ref a0), (1, .int x1)] [] := by
  induction n with
  | zero => intro h a0 x1; exact z_none
  | succ n hr22 =>
    intro h a0 x1
    show ZZ X g 2 (0, 0, 0, 0) _ (bX12_house_22 N (zfix (fun _ _ _ => none) (bX12_house_22 N) n) h a0 x1) h 22 _ _
    unfold bX12_house_22
    refine z_iload_n C 1 dX12_house_22 rfl ?_
    refine z_aload_n C 0 dX12_house_23 rfl ?_
    refine z_getI C qX12_121 dX12_house_24 (fun v_1 => ?_)
    refine z_icmpge C 48 dX12_house_27 rfl ?_ ?_
    · refine z_aload_n C 0 dX12_house_48 rfl ?_
      refine z_iconst (v := (0 : Int32)) C dX12_house_49 rfl ?_
      refine z_putI C pX12_111 dX12_house_50 (fun h_2 => ?_)
      refine z_aload_n C 0 dX12_house_53 rfl ?_
      refine z_bind (fun _ q_5 => ?_)
      refine z_calli (z_runV (As := []) (rest := []) C mX12_166 (kX12_readAll N h_2 a0) q_5 (Nat.le_of_ble_eq_true rfl) ⟨Nat.zero_le _, Nat.zero_le _⟩ dX12_house_54 rfl rfl (Nat.le_of_ble_eq_true rfl)) rfl (fun v_4 h_3 => ?_)
      refine z_ifne C 68 dX12_house_57 rfl ?_ ?_
      · refine z_iconst (v := (0 : Int32)) C dX12_house_68 rfl ?_
        refine z_istore_n C dX12_house_69 [(1, .int (0 : Int32)), (0, .ref a0)] (by decide) rfl ?_
        exact z_lv _ [1, 0] rfl (tX12_house_70 C N N _ a0 (0 : Int32))
      · refine z_bipush (v := (-10 : Int32)) C dX12_house_60 rfl ?_
        refine z_aload_n C 0 dX12_house_62 rfl ?_
        refine z_getI C qX12_118 dX12_house_63 (fun v_6 => ?_)
        refine z_isub C dX12_house_66 ?_
        exact z_ireturn C ⟨rfl, rfl⟩ dX12_house_67
    · refine z_aload_n C 0 dX12_house_30 rfl ?_
      refine z_getR C qX12_30 dX12_house_31 (fun a_7 => ?_)
      refine z_iload_n C 1 dX12_house_34 rfl ?_
      refine z_aload_n C 0 dX12_house_35 rfl ?_
      refine z_getR C qX12_21 dX12_house_36 (fun a_8 => ?_)
      refine z_iload_n C 1 dX12_house_39 rfl ?_
      refine z_iaload C dX12_house_40 (fun v_9 => ?_)
      refine z_iastore C dX12_house_41 (fun h_10 => ?_)
      refine z_iinc (v := x1 + (1 : Int32)) C 1 dX12_house_42 [(1, .int (x1 + (1 : Int32))), (0, .ref a0)] rfl rfl (by decide) rfl ?_
      refine z_goto C 22 dX12_house_45 rfl ?_
      exact z_lv _ [1, 0] rfl (hr22 _ a0 (x1 + (1 : Int32)))
def fX12_house (N : Nat) (h : AH) (a0 : Nat) : Option (Int32 × AH) :=
  (zgI h a0 12 8).bind fun v_1 =>
  (if v_1 = (6 : Int32) then
  some ((-4 : Int32), h)
  else
  (zgI h a0 12 5).bind fun v_2 =>
  (zput h a0 12 10 (.int v_2)).bind fun h_3 =>
  zfix (fun _ _ _ => none) (bX12_house_22 N) N h_3 a0 (0 : Int32))
theorem kX12_house {l : Launch} {g : zG} (N : Nat) (h : AH) (a0 : Nat) : zM l g yX12_house cX12_house 2 (some .int) (27) 0 0 (fun v : Int32 => some (.int v)) (fX12_house N h a0) h [.ref a0] := by
  refine zM.of (lv0 := [(0, .ref a0)]) (by decide) (Nat.le_of_ble_eq_true rfl) rfl (fun X hX C => ?_)
  subst hX
  unfold fX12_house
  refine z_aload_n C 0 dX12_house_0 rfl ?_
  refine z_getI C qX12_169 dX12_house_1 (fun v_1 => ?_)
  refine z_bipush (v := (6 : Int32)) C dX12_house_4 rfl ?_
  refine z_icmpne C 12 dX12_house_6 rfl ?_ ?_
  · refine z_aload_n C 0 dX12_house_12 rfl ?_
    refine z_aload_n C 0 dX12_house_13 rfl ?_
    refine z_getI C qX12_111 dX12_house_14 (fun v_2 => ?_)
    refine z_putI C pX12_121 dX12_house_17 (fun h_3 => ?_)
    refine z_iconst (v := (0 : Int32)) C dX12_house_20 rfl ?_
    refine z_istore_n C dX12_house_21 [(1, .int (0 : Int32)), (0, .ref a0)] (by decide) rfl ?_
    exact z_lv _ [1, 0] rfl (tX12_house_22 C N N _ a0 (0 : Int32))
  · refine z_bipush (v := (-4 : Int32)) C dX12_house_9 rfl ?_
    exact z_ireturn C ⟨rfl, rfl⟩ dX12_house_11
def bX12_night_2 (N : Nat) (r2 : AH → Nat → Int32 → Option (Unit × AH)) (h : AH) (a0 : Nat) (x1 : Int32) : Option (Unit × AH) :=
  (zgR h a0 12 0).bind fun a_1 =>
  (zald 0 h a_1 (76 : Int32)).bind fun v_2 =>
  (if v_2 ≤ x1 then
  (zgR h a0 12 0).bind fun a_3 =>
  (zald 0 h a_3 (79 : Int32)).bind fun v_4 =>
  (zast 0 h a_3 (79 : Int32) (v_4 + (1 : Int32))).bind fun h_5 =>
  some ((), h_5)
  else
  (zgR h a0 12 0).bind fun a_6 =>
  (zis h a0 12).bind fun _ =>
  zcall (fX12_mindOf N h a0 x1) fun v_8 h_7 =>
  (zgR h_7 a0 12 0).bind fun a_10 =>
  (zald 0 h_7 a_10 (79 : Int32)).bind fun v_11 =>
  (zis h_7 a0 12).bind fun _ =>
  zcall (fX12_stays N h_7 a0 x1 v_8 v_11) fun v_13 h_12 =>
  (zast 0 h_12 a_6 (((7 : Int32) * x1) + (2 : Int32)) v_13).bind fun h_15 =>
  r2 h_15 a0 (x1 + (1 : Int32)))
theorem tX12_night_2 {X : zX} {g : zG} (C : zC X g yX12_night cX12_night 2 31 0 0 none) (N : Nat) (n : Nat) : ∀ (h : AH) (a0 : Nat) (x1 : Int32), ZZ X g 2 (0, 0, 0, 0) (fun _ : Unit => none) (zfix (fun _ _ _ => none) (bX12_night_2 N) n h a0 x1) h 2 [(0, .ref a0), (1, .int x1)] [] := by
  induction n with
  | zero => intro h a0 x1; exact z_none
  | succ n hr2 =>
    intro h a0 x1
    show ZZ X g 2 (0, 0, 0, 0) _ (bX12_night_2 N (zfix (fun _ _ _ => none) (bX12_night_2 N) n) h a0 x1) h 2 _ _
    unfold bX12_night_2
    refine z_iload_n C 1 dX12_night_2 rfl ?_
    refine z_aload_n C 0 dX12_night_3 rfl ?_
    refine z_getR C qX12_9 dX12_night_4 (fun a_1 => ?_)
    refine z_bipush (v := (76 : Int32)) C dX12_night_7 rfl ?_
    refine z_iaload C dX12_night_9 (fun v_2 => ?_)
    refine z_icmpge C 47 dX12_night_10 rfl ?_ ?_
    · refine z_aload_n C 0 dX12_night_47 rfl ?_
      refine z_getR C qX12_9 dX12_night_48 (fun a_3 => ?_)
      refine z_bipush (v := (79 : Int32)) C dX12_night_51 rfl ?_
      refine z_dup2 C dX12_night_53 rfl rfl ?_
      refine z_iaload C dX12_night_54 (fun v_4 => ?_)
      refine z_iconst (v := (1 : Int32)) C dX12_night_55 rfl ?_
      refine z_iadd C dX12_night_56 ?_
      refine z_iastore C dX12_night_57 (fun h_5 => ?_)
      exact z_return C ⟨rfl, rfl⟩ dX12_night_58
    · refine z_aload_n C 0 dX12_night_13 rfl ?_
      refine z_getR C qX12_9 dX12_night_14 (fun a_6 => ?_)
      refine z_bipush (v := (7 : Int32)) C dX12_night_17 rfl ?_
      refine z_iload_n C 1 dX12_night_19 rfl ?_
      refine z_imul C dX12_night_20 ?_
      refine z_iconst (v := (2 : Int32)) C dX12_night_21 rfl ?_
      refine z_iadd C dX12_night_22 ?_
      refine z_aload_n C 0 dX12_night_23 rfl ?_
      refine z_iload_n C 1 dX12_night_24 rfl ?_
      refine z_aload_n C 0 dX12_night_25 rfl ?_
      refine z_iload_n C 1 dX12_night_26 rfl ?_
      refine z_bind (fun _ q_9 => ?_)
      refine z_calli (z_runV (As := [.int x1]) (rest := [.int x1, .ref a0, .int (((7 : Int32) * x1) + (2 : Int32)), .ref a_6]) C mX12_99 (kX12_mindOf N h a0 x1) q_9 (Nat.le_of_ble_eq_true rfl) ⟨Nat.zero_le _, Nat.zero_le _⟩ dX12_night_27 rfl rfl (Nat.le_of_ble_eq_true rfl)) rfl (fun v_8 h_7 => ?_)
      refine z_aload_n C 0 dX12_night_30 rfl ?_
      refine z_getR C qX12_9 dX12_night_31 (fun a_10 => ?_)
      refine z_bipush (v := (79 : Int32)) C dX12_night_34 rfl ?_
      refine z_iaload C dX12_night_36 (fun v_11 => ?_)
      refine z_bind (fun _ q_14 => ?_)
      refine z_calli (z_runV (As := [.int x1, .int v_8, .int v_11]) (rest := [.int (((7 : Int32) * x1) + (2 : Int32)), .ref a_6]) C mX12_179 (kX12_stays N h_7 a0 x1 v_8 v_11) q_14 (Nat.le_of_ble_eq_true rfl) ⟨Nat.zero_le _, Nat.zero_le _⟩ dX12_night_37 rfl rfl (Nat.le_of_ble_eq_true rfl)) rfl (fun v_13 h_12 => ?_)
      refine z_iastore C dX12_night_40 (fun h_15 => ?_)
      refine z_iinc (v := x1 + (1 : Int32)) C 1 dX12_night_41 [(1, .int (x1 + (1 : Int32))), (0, .ref a0)] rfl rfl (by decide) rfl ?_
      refine z_goto C 2 dX12_night_44 rfl ?_
      exact z_lv _ [1, 0] rfl (hr2 _ a0 (x1 + (1 : Int32)))
def fX12_night (N : Nat) (h : AH) (a0 : Nat) : Option (Unit × AH) :=
  zfix (fun _ _ _ => none) (bX12_night_2 N) N h a0 (0 : Int32)
theorem kX12_night {l : Launch} {g : zG} (N : Nat) (h : AH) (a0 : Nat) : zM l g yX12_night cX12_night 2 none (31) 0 0 (fun _ : Unit => none) (fX12_night N h a0) h [.ref a0] := by
  refine zM.of (lv0 := [(0, .ref a0)]) (by decide) (Nat.le_of_ble_eq_true rfl) rfl (fun X hX C => ?_)
  subst hX
  unfold fX12_night
  refine z_iconst (v := (0 : Int32)) C dX12_night_0 rfl ?_
  refine z_istore_n C dX12_night_1 [(1, .int (0 : Int32)), (0, .ref a0)] (by decide) rfl ?_
  exact z_lv _ [1, 0] rfl (tX12_night_2 C N N _ a0 (0 : Int32))
def fX12_takes_ (N : Nat) (h : AH) (a0 : Nat) (x1 : Int32) (x2 : Int32) : Option (Int32 × AH) :=
  (zgR h a0 12 0).bind fun a_1 =>
  (zald 0 h a_1 (((42 : Int32) + ((3 : Int32) * x1)) + x2)).bind fun v_2 =>
  some (v_2, h)
theorem kX12_takes_ {l : Launch} {g : zG} (N : Nat) (h : AH) (a0 : Nat) (x1 : Int32) (x2 : Int32) : zM l g yX12_takes_ cX12_takes_ 3 (some .int) (1) 0 0 (fun v : Int32 => some (.int v)) (fX12_takes_ N h a0 x1 x2) h [.ref a0, .int x1, .int x2] := by
  refine zM.of (lv0 := [(0, .ref a0), (1, .int x1), (2, .int x2)]) (by decide) (Nat.le_of_ble_eq_true rfl) rfl (fun X hX C => ?_)
  subst hX
  unfold fX12_takes_
  refine z_aload_n C 0 dX12_takes__0 rfl ?_
  refine z_getR C qX12_9 dX12_takes__1 (fun a_1 => ?_)
  refine z_bipush (v := (42 : Int32)) C dX12_takes__4 rfl ?_
  refine z_iconst (v := (3 : Int32)) C dX12_takes__6 rfl ?_
  refine z_iload_n C 1 dX12_takes__7 rfl ?_
  refine z_imul C dX12_takes__8 ?_
  refine z_iadd C dX12_takes__9 ?_
  refine z_iload_n C 2 dX12_takes__10 rfl ?_
  refine z_iadd C dX12_takes__11 ?_
  refine z_iaload C dX12_takes__12 (fun v_2 => ?_)
  exact z_ireturn C ⟨rfl, rfl⟩ dX12_takes__13
def bX12_done_4 (N : Nat) (r4 : AH → Nat → Int32 → Int32 → Option (Int32 × AH)) (h : AH) (a0 : Nat) (x1 : Int32) (x2 : Int32) : Option (Int32 × AH) :=
  (zgR h a0 12 0).bind fun a_1 =>
  (zald 0 h a_1 (77 : Int32)).bind fun v_2 =>
  (if v_2 ≤ x2 then
  some (x1, h)
  else
  (zis h a0 12).bind fun _ =>
  zcall (fX12_takes_ N h a0 x2 (1 : Int32)) fun v_4 h_3 =>
  (zis h_3 a0 12).bind fun _ =>
  zcall (fX12_takes_ N h_3 a0 x2 (0 : Int32)) fun v_7 h_6 =>
  (zis h_6 a0 12).bind fun _ =>
  zcall (fX12_mindOf N h_6 a0 v_7) fun v_10 h_9 =>
  (if (v_4 &&& (v_10 ^^^ (-1 : Int32))) = (0) then
  znm (x1 ||| ((1 : Int32) <<< (x2 &&& 31))) fun y_13 =>
  r4 h_9 a0 y_13 (x2 + (1 : Int32))
  else
  znm (x1 ||| (0 : Int32)) fun y_12 =>
  r4 h_9 a0 y_12 (x2 + (1 : Int32))))
theorem tX12_done_4 {X : zX} {g : zG} (C : zC X g yX12_done cX12_done 3 2 0 0 (some .int)) (N : Nat) (n : Nat) : ∀ (h : AH) (a0 : Nat) (x1 : Int32) (x2 : Int32), ZZ X g 3 (0, 0, 0, 0) (fun v : Int32 => some (.int v)) (zfix (fun _ _ _ _ => none) (bX12_done_4 N) n h a0 x1 x2) h 4 [(0, .ref a0), (1, .int x1), (2, .int x2)] [] := by
  induction n with
  | zero => intro h a0 x1 x2; exact z_none
  | succ n hr4 =>
    intro h a0 x1 x2
    show ZZ X g 3 (0, 0, 0, 0) _ (bX12_done_4 N (zfix (fun _ _ _ _ => none) (bX12_done_4 N) n) h a0 x1 x2) h 4 _ _
    unfold bX12_done_4
    refine z_iload_n C 2 dX12_done_4 rfl ?_
    refine z_aload_n C 0 dX12_done_5 rfl ?_
    refine z_getR C qX12_9 dX12_done_6 (fun a_1 => ?_)
    refine z_bipush (v := (77 : Int32)) C dX12_done_9 rfl ?_
    refine z_iaload C dX12_done_11 (fun v_2 => ?_)
    refine z_icmpge C 53 dX12_done_12 rfl ?_ ?_
    · refine z_iload_n C 1 dX12_done_53 rfl ?_
      exact z_ireturn C ⟨rfl, rfl⟩ dX12_done_54
    · refine z_iload_n C 1 dX12_done_15 rfl ?_
      refine z_aload_n C 0 dX12_done_16 rfl ?_
      refine z_iload_n C 2 dX12_done_17 rfl ?_
      refine z_iconst (v := (1 : Int32)) C dX12_done_18 rfl ?_
      refine z_bind (fun _ q_5 => ?_)
      refine z_calli (z_runV (As := [.int x2, .int (1 : Int32)]) (rest := [.int x1]) C mX12_182 (kX12_takes_ N h a0 x2 (1 : Int32)) q_5 (Nat.le_of_ble_eq_true rfl) ⟨Nat.zero_le _, Nat.zero_le _⟩ dX12_done_19 rfl rfl (Nat.le_of_ble_eq_true rfl)) rfl (fun v_4 h_3 => ?_)
      refine z_aload_n C 0 dX12_done_22 rfl ?_
      refine z_aload_n C 0 dX12_done_23 rfl ?_
      refine z_iload_n C 2 dX12_done_24 rfl ?_
      refine z_iconst (v := (0 : Int32)) C dX12_done_25 rfl ?_
      refine z_bind (fun _ q_8 => ?_)
      refine z_calli (z_runV (As := [.int x2, .int (0 : Int32)]) (rest := [.ref a0, .int v_4, .int x1]) C mX12_182 (kX12_takes_ N h_3 a0 x2 (0 : Int32)) q_8 (Nat.le_of_ble_eq_true rfl) ⟨Nat.zero_le _, Nat.zero_le _⟩ dX12_done_26 rfl rfl (Nat.le_of_ble_eq_true rfl)) rfl (fun v_7 h_6 => ?_)
      refine z_bind (fun _ q_11 => ?_)
      refine z_calli (z_runV (As := [.int v_7]) (rest := [.int v_4, .int x1]) C mX12_99 (kX12_mindOf N h_6 a0 v_7) q_11 (Nat.le_of_ble_eq_true rfl) ⟨Nat.zero_le _, Nat.zero_le _⟩ dX12_done_29 rfl rfl (Nat.le_of_ble_eq_true rfl)) rfl (fun v_10 h_9 => ?_)
      refine z_iconst (v := (-1 : Int32)) C dX12_done_32 rfl ?_
      refine z_ixor C dX12_done_33 ?_
      refine z_iand C dX12_done_34 ?_
      refine z_ifne C 44 dX12_done_35 rfl ?_ ?_
      · refine z_iconst (v := (0 : Int32)) C dX12_done_44 rfl ?_
        refine z_ior C dX12_done_45 ?_
        refine z_nmI (fun y_12 => ?_)
        refine z_istore_n C dX12_done_46 [(1, .int y_12), (0, .ref a0), (2, .int x2)] (by decide) rfl ?_
        refine z_iinc (v := x2 + (1 : Int32)) C 2 dX12_done_47 [(2, .int (x2 + (1 : Int32))), (1, .int y_12), (0, .ref a0)] rfl rfl (by decide) rfl ?_
        refine z_goto C 4 dX12_done_50 rfl ?_
        exact z_lv _ [2, 1, 0] rfl (hr4 _ a0 y_12 (x2 + (1 : Int32)))
      · refine z_iconst (v := (1 : Int32)) C dX12_done_38 rfl ?_
        refine z_iload_n C 2 dX12_done_39 rfl ?_
        refine z_ishl C dX12_done_40 ?_
        refine z_goto C 45 dX12_done_41 rfl ?_
        refine z_ior C dX12_done_45 ?_
        refine z_nmI (fun y_13 => ?_)
        refine z_istore_n C dX12_done_46 [(1, .int y_13), (0, .ref a0), (2, .int x2)] (by decide) rfl ?_
        refine z_iinc (v := x2 + (1 : Int32)) C 2 dX12_done_47 [(2, .int (x2 + (1 : Int32))), (1, .int y_13), (0, .ref a0)] rfl rfl (by decide) rfl ?_
        refine z_goto C 4 dX12_done_50 rfl ?_
        exact z_lv _ [2, 1, 0] rfl (hr4 _ a0 y_13 (x2 + (1 : Int32)))
def fX12_done (N : Nat) (h : AH) (a0 : Nat) : Option (Int32 × AH) :=
  zfix (fun _ _ _ _ => none) (bX12_done_4 N) N h a0 (0 : Int32) (0 : Int32)
theorem kX12_done {l : Launch} {g : zG} (N : Nat) (h : AH) (a0 : Nat) : zM l g yX12_done cX12_done 3 (some .int) (2) 0 0 (fun v : Int32 => some (.int v)) (fX12_done N h a0) h [.ref a0] := by
  refine zM.of (lv0 := [(0, .ref a0)]) (by decide) (Nat.le_of_ble_eq_true rfl) rfl (fun X hX C => ?_)
  subst hX
  unfold fX12_done
  refine z_iconst (v := (0 : Int32)) C dX12_done_0 rfl ?_
  refine z_istore_n C dX12_done_1 [(1, .int (0 : Int32)), (0, .ref a0)] (by decide) rfl ?_
  refine z_iconst (v := (0 : Int32)) C dX12_done_2 rfl ?_
  refine z_istore_n C dX12_done_3 [(2, .int (0 : Int32)), (1, .int (0 : Int32)), (0, .ref a0)] (by decide) rfl ?_
  exact z_lv _ [2, 1, 0] rfl (tX12_done_4 C N N _ a0 (0 : Int32) (0 : Int32))
def bX12_known_4 (N : Nat) (r4 : AH → Nat → Int32 → Int32 → Option (Int32 × AH)) (h : AH) (a0 : Nat) (x1 : Int32) (x2 : Int32) : Option (Int32 × AH) :=
  (zgR h a0 12 0).bind fun a_1 =>
  (zald 0 h a_1 (76 : Int32)).bind fun v_2 =>
  (if v_2 ≤ x2 then
  some (x1, h)
  else
  (zis h a0 12).bind fun _ =>
  zcall (fX12_mindOf N h a0 x2) fun v_4 h_3 =>
  zcall (fX12_many N h_3 v_4) fun v_7 h_6 =>
  znm (x1 + v_7) fun y_8 =>
  r4 h_6 a0 y_8 (x2 + (1 : Int32)))
theorem tX12_known_4 {X : zX} {g : zG} (C : zC X g yX12_known cX12_known 3 2 0 0 (some .int)) (N : Nat) (n : Nat) : ∀ (h : AH) (a0 : Nat) (x1 : Int32) (x2 : Int32), ZZ X g 3 (0, 0, 0, 0) (fun v : Int32 => some (.int v)) (zfix (fun _ _ _ _ => none) (bX12_known_4 N) n h a0 x1 x2) h 4 [(0, .ref a0), (1, .int x1), (2, .int x2)] [] := by
  induction n with
  | zero => intro h a0 x1 x2; exact z_none
  | succ n hr4 =>
    intro h a0 x1 x2
    show ZZ X g 3 (0, 0, 0, 0) _ (bX12_known_4 N (zfix (fun _ _ _ _ => none) (bX12_known_4 N) n) h a0 x1 x2) h 4 _ _
    unfold bX12_known_4
    refine z_iload_n C 2 dX12_known_4 rfl ?_
    refine z_aload_n C 0 dX12_known_5 rfl ?_
    refine z_getR C qX12_9 dX12_known_6 (fun a_1 => ?_)
    refine z_bipush (v := (76 : Int32)) C dX12_known_9 rfl ?_
    refine z_iaload C dX12_known_11 (fun v_2 => ?_)
    refine z_icmpge C 32 dX12_known_12 rfl ?_ ?_
    · refine z_iload_n C 1 dX12_known_32 rfl ?_
      exact z_ireturn C ⟨rfl, rfl⟩ dX12_known_33
    · refine z_iload_n C 1 dX12_known_15 rfl ?_
      refine z_aload_n C 0 dX12_known_16 rfl ?_
      refine z_iload_n C 2 dX12_known_17 rfl ?_
      refine z_bind (fun _ q_5 => ?_)
      refine z_calli (z_runV (As := [.int x2]) (rest := [.int x1]) C mX12_99 (kX12_mindOf N h a0 x2) q_5 (Nat.le_of_ble_eq_true rfl) ⟨Nat.zero_le _, Nat.zero_le _⟩ dX12_known_18 rfl rfl (Nat.le_of_ble_eq_true rfl)) rfl (fun v_4 h_3 => ?_)
      refine z_calli (z_runS (As := [.int v_4]) (rest := [.int x1]) C mX12_184 (kX12_many N h_3 v_4) (Nat.le_of_ble_eq_true rfl) ⟨Nat.zero_le _, Nat.zero_le _⟩ dX12_known_21 rfl rfl (Nat.le_of_ble_eq_true rfl)) rfl (fun v_7 h_6 => ?_)
      refine z_iadd C dX12_known_24 ?_
      refine z_nmI (fun y_8 => ?_)
      refine z_istore_n C dX12_known_25 [(1, .int y_8), (0, .ref a0), (2, .int x2)] (by decide) rfl ?_
      refine z_iinc (v := x2 + (1 : Int32)) C 2 dX12_known_26 [(2, .int (x2 + (1 : Int32))), (1, .int y_8), (0, .ref a0)] rfl rfl (by decide) rfl ?_
      refine z_goto C 4 dX12_known_29 rfl ?_
      exact z_lv _ [2, 1, 0] rfl (hr4 _ a0 y_8 (x2 + (1 : Int32)))
def fX12_known (N : Nat) (h : AH) (a0 : Nat) : Option (Int32 × AH) :=
  zfix (fun _ _ _ _ => none) (bX12_known_4 N) N h a0 (0 : Int32) (0 : Int32)
theorem kX12_known {l : Launch} {g : zG} (N : Nat) (h : AH) (a0 : Nat) : zM l g yX12_known cX12_known 3 (some .int) (2) 0 0 (fun v : Int32 => some (.int v)) (fX12_known N h a0) h [.ref a0] := by
  refine zM.of (lv0 := [(0, .ref a0)]) (by decide) (Nat.le_of_ble_eq_true rfl) rfl (fun X hX C => ?_)
  subst hX
  unfold fX12_known
  refine z_iconst (v := (0 : Int32)) C dX12_known_0 rfl ?_
  refine z_istore_n C dX12_known_1 [(1, .int (0 : Int32)), (0, .ref a0)] (by decide) rfl ?_
  refine z_iconst (v := (0 : Int32)) C dX12_known_2 rfl ?_
  refine z_istore_n C dX12_known_3 [(2, .int (0 : Int32)), (1, .int (0 : Int32)), (0, .ref a0)] (by decide) rfl ?_
  exact z_lv _ [2, 1, 0] rfl (tX12_known_4 C N N _ a0 (0 : Int32) (0 : Int32))
def bX12_tellFor_30 (N : Nat) (r4 : AH → Nat → Int32 → Int32 → Int32 → Option (Int32 × AH)) (h : AH) (a0 : Nat) (x1 : Int32) (x2 : Int32) (x3 : Int32) : Option (Int32 × AH) :=
  (zis h a0 12).bind fun _ =>
  zcall (fX12_takes_ N h a0 x3 (0 : Int32)) fun v_2 h_1 =>
  (zis h_1 a0 12).bind fun _ =>
  zcall (fX12_takes_ N h_1 a0 x3 (1 : Int32)) fun v_5 h_4 =>
  (zis h_4 a0 12).bind fun _ =>
  zcall (fX12_mindOf N h_4 a0 v_2) fun v_8 h_7 =>
  zcall (fX12_many N h_7 (v_5 &&& (v_8 ^^^ (-1 : Int32)))) fun v_11 h_10 =>
  znm (x2 + v_11) fun y_12 =>
  (zgR h_10 a0 12 0).bind fun a_13 =>
  (zald 0 h_10 a_13 (((7 : Int32) * v_2) + (2 : Int32))).bind fun v_14 =>
  (zis h_10 a0 12).bind fun _ =>
  zcall (fX12_takes_ N h_10 a0 x3 (1 : Int32)) fun v_16 h_15 =>
  (zast 0 h_15 a_13 (((7 : Int32) * v_2) + (2 : Int32)) (v_14 ||| v_16)).bind fun h_18 =>
  r4 h_18 a0 x1 y_12 (x3 + (1 : Int32))
theorem tX12_tellFor_30 {X : zX} {g : zG} (C : zC X g yX12_tellFor cX12_tellFor 5 2 0 0 (some .int)) (N : Nat) {r4 : AH → Nat → Int32 → Int32 → Int32 → Option (Int32 × AH)} (hr4 : ∀ (h : AH) (a0 : Nat) (x1 : Int32) (x2 : Int32) (x3 : Int32), ZZ X g 5 (0, 0, 0, 0) (fun v : Int32 => some (.int v)) (r4 h a0 x1 x2 x3) h 4 [(0, .ref a0), (1, .int x1), (2, .int x2), (3, .int x3)] []) (h : AH) (a0 : Nat) (x1 : Int32) (x2 : Int32) (x3 : Int32) : ZZ X g 5 (0, 0, 0, 0) (fun v : Int32 => some (.int v)) (bX12_tellFor_30 N r4 h a0 x1 x2 x3) h 30 [(0, .ref a0), (1, .int x1), (2, .int x2), (3, .int x3)] [] := by
  unfold bX12_tellFor_30
  refine z_aload_n C 0 dX12_tellFor_30 rfl ?_
  refine z_iload_n C 3 dX12_tellFor_31 rfl ?_
  refine z_iconst (v := (0 : Int32)) C dX12_tellFor_32 rfl ?_
  refine z_bind (fun _ q_3 => ?_)
  refine z_calli (z_runV (As := [.int x3, .int (0 : Int32)]) (rest := []) C mX12_182 (kX12_takes_ N h a0 x3 (0 : Int32)) q_3 (Nat.le_of_ble_eq_true rfl) ⟨Nat.zero_le _, Nat.zero_le _⟩ dX12_tellFor_33 rfl rfl (Nat.le_of_ble_eq_true rfl)) rfl (fun v_2 h_1 => ?_)
  refine z_istore C dX12_tellFor_36 [(4, .int v_2), (0, .ref a0), (1, .int x1), (2, .int x2), (3, .int x3)] (by decide) rfl ?_
  refine z_iload_n C 3 dX12_tellFor_38 rfl ?_
  refine z_aload_n C 1 dX12_tellFor_39 rfl ?_
  refine z_iload_n C 4 dX12_tellFor_40 rfl ?_
  refine z_iconst (v := (1 : Int32)) C dX12_tellFor_41 rfl ?_
  refine z_bind (fun _ q_6 => ?_)
  refine z_calli (z_runV (As := [.int x3, .int (1 : Int32)]) (rest := [.int x2]) C mX12_182 (kX12_takes_ N h_1 a0 x3 (1 : Int32)) q_6 (Nat.le_of_ble_eq_true rfl) ⟨Nat.zero_le _, Nat.zero_le _⟩ dX12_tellFor_42 rfl rfl (Nat.le_of_ble_eq_true rfl)) rfl (fun v_5 h_4 => ?_)
  refine z_aload_n C 1 dX12_tellFor_45 rfl ?_
  refine z_iload C 0 dX12_tellFor_46 rfl ?_
  refine z_bind (fun _ q_9 => ?_)
  refine z_calli (z_runV (As := [.int v_2]) (rest := [.int v_5, .int x2]) C mX12_99 (kX12_mindOf N h_4 a0 v_2) q_9 (Nat.le_of_ble_eq_true rfl) ⟨Nat.zero_le _, Nat.zero_le _⟩ dX12_tellFor_48 rfl rfl (Nat.le_of_ble_eq_true rfl)) rfl (fun v_8 h_7 => ?_)
  refine z_iconst (v := (-1 : Int32)) C dX12_tellFor_51 rfl ?_
  refine z_ixor C dX12_tellFor_52 ?_
  refine z_iand C dX12_tellFor_53 ?_
  refine z_calli (z_runS (As := [.int (v_5 &&& (v_8 ^^^ (-1 : Int32)))]) (rest := [.int x2]) C mX12_184 (kX12_many N h_7 (v_5 &&& (v_8 ^^^ (-1 : Int32)))) (Nat.le_of_ble_eq_true rfl) ⟨Nat.zero_le _, Nat.zero_le _⟩ dX12_tellFor_54 rfl rfl (Nat.le_of_ble_eq_true rfl)) rfl (fun v_11 h_10 => ?_)
  refine z_iadd C dX12_tellFor_57 ?_
  refine z_nmI (fun y_12 => ?_)
  refine z_istore_n C dX12_tellFor_58 [(2, .int y_12), (4, .int v_2), (0, .ref a0), (1, .int x1), (3, .int x3)] (by decide) rfl ?_
  refine z_aload_n C 2 dX12_tellFor_59 rfl ?_
  refine z_getR C qX12_9 dX12_tellFor_60 (fun a_13 => ?_)
  refine z_bipush (v := (7 : Int32)) C dX12_tellFor_63 rfl ?_
  refine z_iload C 1 dX12_tellFor_65 rfl ?_
  refine z_imul C dX12_tellFor_67 ?_
  refine z_iconst (v := (2 : Int32)) C dX12_tellFor_68 rfl ?_
  refine z_iadd C dX12_tellFor_69 ?_
  refine z_dup2 C dX12_tellFor_70 rfl rfl ?_
  refine z_iaload C dX12_tellFor_71 (fun v_14 => ?_)
  refine z_aload_n C 2 dX12_tellFor_72 rfl ?_
  refine z_iload_n C 4 dX12_tellFor_73 rfl ?_
  refine z_iconst (v := (1 : Int32)) C dX12_tellFor_74 rfl ?_
  refine z_bind (fun _ q_17 => ?_)
  refine z_calli (z_runV (As := [.int x3, .int (1 : Int32)]) (rest := [.int v_14, .int (((7 : Int32) * v_2) + (2 : Int32)), .ref a_13]) C mX12_182 (kX12_takes_ N h_10 a0 x3 (1 : Int32)) q_17 (Nat.le_of_ble_eq_true rfl) ⟨Nat.zero_le _, Nat.zero_le _⟩ dX12_tellFor_75 rfl rfl (Nat.le_of_ble_eq_true rfl)) rfl (fun v_16 h_15 => ?_)
  refine z_ior C dX12_tellFor_78 ?_
  refine z_iastore C dX12_tellFor_79 (fun h_18 => ?_)
  refine z_iinc (v := x3 + (1 : Int32)) C 4 dX12_tellFor_80 [(3, .int (x3 + (1 : Int32))), (2, .int y_12), (4, .int v_2), (0, .ref a0), (1, .int x1)] rfl rfl (by decide) rfl ?_
  refine z_goto C 4 dX12_tellFor_83 rfl ?_
  exact z_lv _ [3, 4, 1, 0] rfl (hr4 _ a0 x1 y_12 (x3 + (1 : Int32)))
def bX12_tellFor_4 (N : Nat) (r4 : AH → Nat → Int32 → Int32 → Int32 → Option (Int32 × AH)) (h : AH) (a0 : Nat) (x1 : Int32) (x2 : Int32) (x3 : Int32) : Option (Int32 × AH) :=
  (zgR h a0 12 0).bind fun a_1 =>
  (zald 0 h a_1 (77 : Int32)).bind fun v_2 =>
  (if v_2 ≤ x3 then
  some (x2, h)
  else
  (if x1 = (-1 : Int32) then
  bX12_tellFor_30 N r4 h a0 x1 x2 x3
  else
  (zis h a0 12).bind fun _ =>
  zcall (fX12_takes_ N h a0 x3 (2 : Int32)) fun v_4 h_3 =>
  (if v_4 = x1 then
  bX12_tellFor_30 N r4 h_3 a0 x1 x2 x3
  else
  r4 h_3 a0 x1 x2 (x3 + (1 : Int32)))))
theorem tX12_tellFor_4 {X : zX} {g : zG} (C : zC X g yX12_tellFor cX12_tellFor 5 2 0 0 (some .int)) (N : Nat) (n : Nat) : ∀ (h : AH) (a0 : Nat) (x1 : Int32) (x2 : Int32) (x3 : Int32), ZZ X g 5 (0, 0, 0, 0) (fun v : Int32 => some (.int v)) (zfix (fun _ _ _ _ _ => none) (bX12_tellFor_4 N) n h a0 x1 x2 x3) h 4 [(0, .ref a0), (1, .int x1), (2, .int x2), (3, .int x3)] [] := by
  induction n with
  | zero => intro h a0 x1 x2 x3; exact z_none
  | succ n hr4 =>
    intro h a0 x1 x2 x3
    show ZZ X g 5 (0, 0, 0, 0) _ (bX12_tellFor_4 N (zfix (fun _ _ _ _ _ => none) (bX12_tellFor_4 N) n) h a0 x1 x2 x3) h 4 _ _
    unfold bX12_tellFor_4
    refine z_iload_n C 3 dX12_tellFor_4 rfl ?_
    refine z_aload_n C 0 dX12_tellFor_5 rfl ?_
    refine z_getR C qX12_9 dX12_tellFor_6 (fun a_1 => ?_)
    refine z_bipush (v := (77 : Int32)) C dX12_tellFor_9 rfl ?_
    refine z_iaload C dX12_tellFor_11 (fun v_2 => ?_)
    refine z_icmpge C 86 dX12_tellFor_12 rfl ?_ ?_
    · refine z_iload_n C 2 dX12_tellFor_86 rfl ?_
      exact z_ireturn C ⟨rfl, rfl⟩ dX12_tellFor_87
    · refine z_iload_n C 1 dX12_tellFor_15 rfl ?_
      refine z_iconst (v := (-1 : Int32)) C dX12_tellFor_16 rfl ?_
      refine z_icmpeq C 30 dX12_tellFor_17 rfl ?_ ?_
      · exact z_lv _ [0, 1, 2, 3] rfl (tX12_tellFor_30 C N hr4 _ a0 x1 x2 x3)
      · refine z_aload_n C 0 dX12_tellFor_20 rfl ?_
        refine z_iload_n C 3 dX12_tellFor_21 rfl ?_
        refine z_iconst (v := (2 : Int32)) C dX12_tellFor_22 rfl ?_
        refine z_bind (fun _ q_5 => ?_)
        refine z_calli (z_runV (As := [.int x3, .int (2 : Int32)]) (rest := []) C mX12_182 (kX12_takes_ N h a0 x3 (2 : Int32)) q_5 (Nat.le_of_ble_eq_true rfl) ⟨Nat.zero_le _, Nat.zero_le _⟩ dX12_tellFor_23 rfl rfl (Nat.le_of_ble_eq_true rfl)) rfl (fun v_4 h_3 => ?_)
        refine z_iload_n C 1 dX12_tellFor_26 rfl ?_
        refine z_icmpne C 80 dX12_tellFor_27 rfl ?_ ?_
        · refine z_iinc (v := x3 + (1 : Int32)) C 3 dX12_tellFor_80 [(3, .int (x3 + (1 : Int32))), (0, .ref a0), (1, .int x1), (2, .int x2)] rfl rfl (by decide) rfl ?_
          refine z_goto C 4 dX12_tellFor_83 rfl ?_
          exact z_lv _ [1, 2, 3, 0] rfl (hr4 _ a0 x1 x2 (x3 + (1 : Int32)))
        · exact z_lv _ [0, 1, 2, 3] rfl (tX12_tellFor_30 C N hr4 _ a0 x1 x2 x3)
def fX12_tellFor (N : Nat) (h : AH) (a0 : Nat) (x1 : Int32) : Option (Int32 × AH) :=
  zfix (fun _ _ _ _ _ => none) (bX12_tellFor_4 N) N h a0 x1 (0 : Int32) (0 : Int32)
theorem kX12_tellFor {l : Launch} {g : zG} (N : Nat) (h : AH) (a0 : Nat) (x1 : Int32) : zM l g yX12_tellFor cX12_tellFor 5 (some .int) (2) 0 0 (fun v : Int32 => some (.int v)) (fX12_tellFor N h a0 x1) h [.ref a0, .int x1] := by
  refine zM.of (lv0 := [(0, .ref a0), (1, .int x1)]) (by decide) (Nat.le_of_ble_eq_true rfl) rfl (fun X hX C => ?_)
  subst hX
  unfold fX12_tellFor
  refine z_iconst (v := (0 : Int32)) C dX12_tellFor_0 rfl ?_
  refine z_istore_n C dX12_tellFor_1 [(2, .int (0 : Int32)), (0, .ref a0), (1, .int x1)] (by decide) rfl ?_
  refine z_iconst (v := (0 : Int32)) C dX12_tellFor_2 rfl ?_
  refine z_istore_n C dX12_tellFor_3 [(3, .int (0 : Int32)), (2, .int (0 : Int32)), (0, .ref a0), (1, .int x1)] (by decide) rfl ?_
  exact z_lv _ [2, 3, 1, 0] rfl (tX12_tellFor_4 C N N _ a0 x1 (0 : Int32) (0 : Int32))
def fX12_tellings (N : Nat) (h : AH) (a0 : Nat) : Option (Int32 × AH) :=
  (zgR h a0 12 0).bind fun a_1 =>
  (zgR h a0 12 1).bind fun a_2 =>
  zcall (fX12_move N h a_1 a_2) fun _ h_3 =>
  (zis h_3 a0 12).bind fun _ =>
  zcall (fX12_tellFor N h_3 a0 (-1 : Int32)) fun v_5 h_4 =>
  (zgR h_4 a0 12 1).bind fun a_7 =>
  (zgR h_4 a0 12 0).bind fun a_8 =>
  zcall (fX12_move N h_4 a_7 a_8) fun _ h_9 =>
  some (v_5, h_9)
theorem kX12_tellings {l : Launch} {g : zG} (N : Nat) (h : AH) (a0 : Nat) : zM l g yX12_tellings cX12_tellings 2 (some .int) (3) 0 0 (fun v : Int32 => some (.int v)) (fX12_tellings N h a0) h [.ref a0] := by
  refine zM.of (lv0 := [(0, .ref a0)]) (by decide) (Nat.le_of_ble_eq_true rfl) rfl (fun X hX C => ?_)
  subst hX
  unfold fX12_tellings
  refine z_aload_n C 0 dX12_tellings_0 rfl ?_
  refine z_getR C qX12_9 dX12_tellings_1 (fun a_1 => ?_)
  refine z_aload_n C 0 dX12_tellings_4 rfl ?_
  refine z_getR C qX12_15 dX12_tellings_5 (fun a_2 => ?_)
  refine z_callv (z_runS (As := [.ref a_1, .ref a_2]) (rest := []) C mX12_72 (kX12_move N h a_1 a_2) (Nat.le_of_ble_eq_true rfl) ⟨Nat.zero_le _, Nat.zero_le _⟩ dX12_tellings_8 rfl rfl (Nat.le_of_ble_eq_true rfl)) rfl (fun _ h_3 => ?_)
  refine z_aload_n C 0 dX12_tellings_11 rfl ?_
  refine z_iconst (v := (-1 : Int32)) C dX12_tellings_12 rfl ?_
  refine z_bind (fun _ q_6 => ?_)
  refine z_calli (z_runV (As := [.int (-1 : Int32)]) (rest := []) C mX12_187 (kX12_tellFor N h_3 a0 (-1 : Int32)) q_6 (Nat.le_of_ble_eq_true rfl) ⟨Nat.zero_le _, Nat.zero_le _⟩ dX12_tellings_13 rfl rfl (Nat.le_of_ble_eq_true rfl)) rfl (fun v_5 h_4 => ?_)
  refine z_istore_n C dX12_tellings_16 [(1, .int v_5), (0, .ref a0)] (by decide) rfl ?_
  refine z_aload_n C 1 dX12_tellings_17 rfl ?_
  refine z_getR C qX12_15 dX12_tellings_18 (fun a_7 => ?_)
  refine z_aload_n C 1 dX12_tellings_21 rfl ?_
  refine z_getR C qX12_9 dX12_tellings_22 (fun a_8 => ?_)
  refine z_callv (z_runS (As := [.ref a_7, .ref a_8]) (rest := []) C mX12_72 (kX12_move N h_4 a_7 a_8) (Nat.le_of_ble_eq_true rfl) ⟨Nat.zero_le _, Nat.zero_le _⟩ dX12_tellings_25 rfl rfl (Nat.le_of_ble_eq_true rfl)) rfl (fun _ h_9 => ?_)
  refine z_iload_n C 0 dX12_tellings_28 rfl ?_
  exact z_ireturn C ⟨rfl, rfl⟩ dX12_tellings_29
def bX12_days_18 (N : Nat) (r18 : AH → Nat → Int32 → Int32 → Int32 → Int32 → Option (Int32 × AH)) (h : AH) (a0 : Nat) (x1 : Int32) (x2 : Int32) (x3 : Int32) (x4 : Int32) : Option (Int32 × AH) :=
  (if (20 : Int32) < x4 then
  (zgR h a0 12 1).bind fun a_1 =>
  (zgR h a0 12 0).bind fun a_2 =>
  zcall (fX12_move N h a_1 a_2) fun _ h_3 =>
  (if x1 = (0) then
  some (x2, h_3)
  else
  some (x3, h_3))
  else
  (zis h a0 12).bind fun _ =>
  zcall (fX12_tellFor N h a0 x4) fun v_5 h_4 =>
  znm (x2 + v_5) fun y_7 =>
  znm (if v_5 < x3 then x3 else v_5) fun y_8 =>
  (zis h_4 a0 12).bind fun _ =>
  zcall (fX12_night N h_4 a0) fun _ h_9 =>
  r18 h_9 a0 x1 y_7 y_8 (x4 + (1 : Int32)))
theorem tX12_days_18 {X : zX} {g : zG} (C : zC X g yX12_days cX12_days 6 32 0 0 (some .int)) (N : Nat) (n : Nat) : ∀ (h : AH) (a0 : Nat) (x1 : Int32) (x2 : Int32) (x3 : Int32) (x4 : Int32), ZZ X g 6 (0, 0, 0, 0) (fun v : Int32 => some (.int v)) (zfix (fun _ _ _ _ _ _ => none) (bX12_days_18 N) n h a0 x1 x2 x3 x4) h 18 [(0, .ref a0), (1, .int x1), (2, .int x2), (3, .int x3), (4, .int x4)] [] := by
  induction n with
  | zero => intro h a0 x1 x2 x3 x4; exact z_none
  | succ n hr18 =>
    intro h a0 x1 x2 x3 x4
    show ZZ X g 6 (0, 0, 0, 0) _ (bX12_days_18 N (zfix (fun _ _ _ _ _ _ => none) (bX12_days_18 N) n) h a0 x1 x2 x3 x4) h 18 _ _
    unfold bX12_days_18
    refine z_iload C 4 dX12_days_18 rfl ?_
    refine z_bipush (v := (20 : Int32)) C dX12_days_20 rfl ?_
    refine z_icmpgt C 55 dX12_days_22 rfl ?_ ?_
    · refine z_aload_n C 0 dX12_days_55 rfl ?_
      refine z_getR C qX12_15 dX12_days_56 (fun a_1 => ?_)
      refine z_aload_n C 0 dX12_days_59 rfl ?_
      refine z_getR C qX12_9 dX12_days_60 (fun a_2 => ?_)
      refine z_callv (z_runS (As := [.ref a_1, .ref a_2]) (rest := []) C mX12_72 (kX12_move N h a_1 a_2) (Nat.le_of_ble_eq_true rfl) ⟨Nat.zero_le _, Nat.zero_le _⟩ dX12_days_63 rfl rfl (Nat.le_of_ble_eq_true rfl)) rfl (fun _ h_3 => ?_)
      refine z_iload_n C 1 dX12_days_66 rfl ?_
      refine z_ifeq C 74 dX12_days_67 rfl ?_ ?_
      · refine z_iload_n C 2 dX12_days_74 rfl ?_
        exact z_ireturn C ⟨rfl, rfl⟩ dX12_days_75
      · refine z_iload_n C 3 dX12_days_70 rfl ?_
        refine z_goto C 75 dX12_days_71 rfl ?_
        exact z_ireturn C ⟨rfl, rfl⟩ dX12_days_75
    · refine z_aload_n C 0 dX12_days_25 rfl ?_
      refine z_iload C 4 dX12_days_26 rfl ?_
      refine z_bind (fun _ q_6 => ?_)
      refine z_calli (z_runV (As := [.int x4]) (rest := []) C mX12_187 (kX12_tellFor N h a0 x4) q_6 (Nat.le_of_ble_eq_true rfl) ⟨Nat.zero_le _, Nat.zero_le _⟩ dX12_days_28 rfl rfl (Nat.le_of_ble_eq_true rfl)) rfl (fun v_5 h_4 => ?_)
      refine z_istore C dX12_days_31 [(5, .int v_5), (0, .ref a0), (1, .int x1), (2, .int x2), (3, .int x3), (4, .int x4)] (by decide) rfl ?_
      refine z_iload_n C 3 dX12_days_33 rfl ?_
      refine z_iload C 0 dX12_days_34 rfl ?_
      refine z_iadd C dX12_days_36 ?_
      refine z_nmI (fun y_7 => ?_)
      refine z_istore_n C dX12_days_37 [(2, .int y_7), (5, .int v_5), (0, .ref a0), (1, .int x1), (3, .int x3), (4, .int x4)] (by decide) rfl ?_
      refine z_iload C 1 dX12_days_38 rfl ?_
      refine z_iload_n C 4 dX12_days_40 rfl ?_
      refine z_mmax C mX12_190 dX12_days_41 (Nat.le_of_ble_eq_true rfl) (by omega) ⟨Nat.zero_le _, Nat.zero_le _⟩ ?_
      refine z_nmI (fun y_8 => ?_)
      refine z_istore_n C dX12_days_44 [(3, .int y_8), (2, .int y_7), (5, .int v_5), (0, .ref a0), (1, .int x1), (4, .int x4)] (by decide) rfl ?_
      refine z_aload_n C 3 dX12_days_45 rfl ?_
      refine z_bind (fun _ q_10 => ?_)
      refine z_callv (z_runV (As := []) (rest := []) C mX12_195 (kX12_night N h_4 a0) q_10 (Nat.le_of_ble_eq_true rfl) ⟨Nat.zero_le _, Nat.zero_le _⟩ dX12_days_46 rfl rfl (Nat.le_of_ble_eq_true rfl)) rfl (fun _ h_9 => ?_)
      refine z_iinc (v := x4 + (1 : Int32)) C 5 dX12_days_49 [(4, .int (x4 + (1 : Int32))), (3, .int y_8), (2, .int y_7), (5, .int v_5), (0, .ref a0), (1, .int x1)] rfl rfl (by decide) rfl ?_
      refine z_goto C 18 dX12_days_52 rfl ?_
      exact z_lv _ [4, 5, 2, 1, 0] rfl (hr18 _ a0 x1 y_7 y_8 (x4 + (1 : Int32)))
def fX12_days (N : Nat) (h : AH) (a0 : Nat) (x1 : Int32) : Option (Int32 × AH) :=
  (zgR h a0 12 0).bind fun a_1 =>
  (zgR h a0 12 1).bind fun a_2 =>
  zcall (fX12_move N h a_1 a_2) fun _ h_3 =>
  zfix (fun _ _ _ _ _ _ => none) (bX12_days_18 N) N h_3 a0 x1 (0 : Int32) (0 : Int32) (0 : Int32)
theorem kX12_days {l : Launch} {g : zG} (N : Nat) (h : AH) (a0 : Nat) (x1 : Int32) : zM l g yX12_days cX12_days 6 (some .int) (32) 0 0 (fun v : Int32 => some (.int v)) (fX12_days N h a0 x1) h [.ref a0, .int x1] := by
  refine zM.of (lv0 := [(0, .ref a0), (1, .int x1)]) (by decide) (Nat.le_of_ble_eq_true rfl) rfl (fun X hX C => ?_)
  subst hX
  unfold fX12_days
  refine z_aload_n C 0 dX12_days_0 rfl ?_
  refine z_getR C qX12_9 dX12_days_1 (fun a_1 => ?_)
  refine z_aload_n C 0 dX12_days_4 rfl ?_
  refine z_getR C qX12_15 dX12_days_5 (fun a_2 => ?_)
  refine z_callv (z_runS (As := [.ref a_1, .ref a_2]) (rest := []) C mX12_72 (kX12_move N h a_1 a_2) (Nat.le_of_ble_eq_true rfl) ⟨Nat.zero_le _, Nat.zero_le _⟩ dX12_days_8 rfl rfl (Nat.le_of_ble_eq_true rfl)) rfl (fun _ h_3 => ?_)
  refine z_iconst (v := (0 : Int32)) C dX12_days_11 rfl ?_
  refine z_istore_n C dX12_days_12 [(2, .int (0 : Int32)), (0, .ref a0), (1, .int x1)] (by decide) rfl ?_
  refine z_iconst (v := (0 : Int32)) C dX12_days_13 rfl ?_
  refine z_istore_n C dX12_days_14 [(3, .int (0 : Int32)), (2, .int (0 : Int32)), (0, .ref a0), (1, .int x1)] (by decide) rfl ?_
  refine z_iconst (v := (0 : Int32)) C dX12_days_15 rfl ?_
  refine z_istore C dX12_days_16 [(4, .int (0 : Int32)), (3, .int (0 : Int32)), (2, .int (0 : Int32)), (0, .ref a0), (1, .int x1)] (by decide) rfl ?_
  exact z_lv _ [3, 4, 2, 1, 0] rfl (tX12_days_18 C N N _ a0 x1 (0 : Int32) (0 : Int32) (0 : Int32))
def fX12_hoursNow (N : Nat) (h : AH) (a0 : Nat) : Option (Int32 × AH) :=
  (zis h a0 12).bind fun _ =>
  zcall (fX12_readFor N h a0 (0 : Int32) (0 : Int32) (0 : Int32)) fun _ h_1 =>
  (zgI h_1 a0 12 15).bind fun v_3 =>
  some (v_3, h_1)
theorem kX12_hoursNow {l : Launch} {g : zG} (N : Nat) (h : AH) (a0 : Nat) : zM l g yX12_hoursNow cX12_hoursNow 1 (some .int) (28) 0 0 (fun v : Int32 => some (.int v)) (fX12_hoursNow N h a0) h [.ref a0] := by
  refine zM.of (lv0 := [(0, .ref a0)]) (by decide) (Nat.le_of_ble_eq_true rfl) rfl (fun X hX C => ?_)
  subst hX
  unfold fX12_hoursNow
  refine z_aload_n C 0 dX12_hoursNow_0 rfl ?_
  refine z_iconst (v := (0 : Int32)) C dX12_hoursNow_1 rfl ?_
  refine z_iconst (v := (0 : Int32)) C dX12_hoursNow_2 rfl ?_
  refine z_iconst (v := (0 : Int32)) C dX12_hoursNow_3 rfl ?_
  refine z_bind (fun _ q_2 => ?_)
  refine z_callv (z_runV (As := [.int (0 : Int32), .int (0 : Int32), .int (0 : Int32)]) (rest := []) C mX12_172 (kX12_readFor N h a0 (0 : Int32) (0 : Int32) (0 : Int32)) q_2 (Nat.le_of_ble_eq_true rfl) ⟨Nat.zero_le _, Nat.zero_le _⟩ dX12_hoursNow_4 rfl rfl (Nat.le_of_ble_eq_true rfl)) rfl (fun _ h_1 => ?_)
  refine z_aload_n C 0 dX12_hoursNow_7 rfl ?_
  refine z_getI C qX12_154 dX12_hoursNow_8 (fun v_3 => ?_)
  exact z_ireturn C ⟨rfl, rfl⟩ dX12_hoursNow_11
def bX12_held_4 (N : Nat) (r4 : AH → Nat → Int32 → Int32 → Int32 → Option (Int32 × AH)) (h : AH) (a0 : Nat) (x1 : Int32) (x2 : Int32) (x3 : Int32) : Option (Int32 × AH) :=
  (zgR h a0 12 0).bind fun a_1 =>
  (zald 0 h a_1 (78 : Int32)).bind fun v_2 =>
  (if v_2 ≤ x3 then
  some (x2, h)
  else
  (if ((x1 >>> (x3 &&& 31)) &&& (1 : Int32)) = (1 : Int32) then
  (zis h a0 12).bind fun _ =>
  zcall (fX12_isOut N h a0 x3) fun v_5 h_4 =>
  (if v_5 = (0) then
  (zgR h_4 a0 12 0).bind fun a_8 =>
  (zald 0 h_4 a_8 ((66 : Int32) + ((2 : Int32) * x3))).bind fun v_9 =>
  znm (x2 ||| v_9) fun y_10 =>
  r4 h_4 a0 x1 y_10 (x3 + (1 : Int32))
  else
  znm (x2 ||| (0 : Int32)) fun y_7 =>
  r4 h_4 a0 x1 y_7 (x3 + (1 : Int32)))
  else
  znm (x2 ||| (0 : Int32)) fun y_3 =>
  r4 h a0 x1 y_3 (x3 + (1 : Int32))))
theorem tX12_held_4 {X : zX} {g : zG} (C : zC X g yX12_held cX12_held 4 2 0 0 (some .int)) (N : Nat) (n : Nat) : ∀ (h : AH) (a0 : Nat) (x1 : Int32) (x2 : Int32) (x3 : Int32), ZZ X g 4 (0, 0, 0, 0) (fun v : Int32 => some (.int v)) (zfix (fun _ _ _ _ _ => none) (bX12_held_4 N) n h a0 x1 x2 x3) h 4 [(0, .ref a0), (1, .int x1), (2, .int x2), (3, .int x3)] [] := by
  induction n with
  | zero => intro h a0 x1 x2 x3; exact z_none
  | succ n hr4 =>
    intro h a0 x1 x2 x3
    show ZZ X g 4 (0, 0, 0, 0) _ (bX12_held_4 N (zfix (fun _ _ _ _ _ => none) (bX12_held_4 N) n) h a0 x1 x2 x3) h 4 _ _
    unfold bX12_held_4
    refine z_iload_n C 3 dX12_held_4 rfl ?_
    refine z_aload_n C 0 dX12_held_5 rfl ?_
    refine z_getR C qX12_9 dX12_held_6 (fun a_1 => ?_)
    refine z_bipush (v := (78 : Int32)) C dX12_held_9 rfl ?_
    refine z_iaload C dX12_held_11 (fun v_2 => ?_)
    refine z_icmpge C 56 dX12_held_12 rfl ?_ ?_
    · refine z_iload_n C 2 dX12_held_56 rfl ?_
      exact z_ireturn C ⟨rfl, rfl⟩ dX12_held_57
    · refine z_iload_n C 2 dX12_held_15 rfl ?_
      refine z_iload_n C 1 dX12_held_16 rfl ?_
      refine z_iload_n C 3 dX12_held_17 rfl ?_
      refine z_ishr C dX12_held_18 ?_
      refine z_iconst (v := (1 : Int32)) C dX12_held_19 rfl ?_
      refine z_iand C dX12_held_20 ?_
      refine z_iconst (v := (1 : Int32)) C dX12_held_21 rfl ?_
      refine z_icmpne C 47 dX12_held_22 rfl ?_ ?_
      · refine z_iconst (v := (0 : Int32)) C dX12_held_47 rfl ?_
        refine z_ior C dX12_held_48 ?_
        refine z_nmI (fun y_3 => ?_)
        refine z_istore_n C dX12_held_49 [(2, .int y_3), (0, .ref a0), (1, .int x1), (3, .int x3)] (by decide) rfl ?_
        refine z_iinc (v := x3 + (1 : Int32)) C 3 dX12_held_50 [(3, .int (x3 + (1 : Int32))), (2, .int y_3), (0, .ref a0), (1, .int x1)] rfl rfl (by decide) rfl ?_
        refine z_goto C 4 dX12_held_53 rfl ?_
        exact z_lv _ [2, 3, 1, 0] rfl (hr4 _ a0 x1 y_3 (x3 + (1 : Int32)))
      · refine z_aload_n C 0 dX12_held_25 rfl ?_
        refine z_iload_n C 3 dX12_held_26 rfl ?_
        refine z_bind (fun _ q_6 => ?_)
        refine z_calli (z_runV (As := [.int x3]) (rest := [.int x2]) C mX12_198 (kX12_isOut N h a0 x3) q_6 (Nat.le_of_ble_eq_true rfl) ⟨Nat.zero_le _, Nat.zero_le _⟩ dX12_held_27 rfl rfl (Nat.le_of_ble_eq_true rfl)) rfl (fun v_5 h_4 => ?_)
        refine z_ifne C 47 dX12_held_30 rfl ?_ ?_
        · refine z_iconst (v := (0 : Int32)) C dX12_held_47 rfl ?_
          refine z_ior C dX12_held_48 ?_
          refine z_nmI (fun y_7 => ?_)
          refine z_istore_n C dX12_held_49 [(2, .int y_7), (0, .ref a0), (1, .int x1), (3, .int x3)] (by decide) rfl ?_
          refine z_iinc (v := x3 + (1 : Int32)) C 3 dX12_held_50 [(3, .int (x3 + (1 : Int32))), (2, .int y_7), (0, .ref a0), (1, .int x1)] rfl rfl (by decide) rfl ?_
          refine z_goto C 4 dX12_held_53 rfl ?_
          exact z_lv _ [2, 3, 1, 0] rfl (hr4 _ a0 x1 y_7 (x3 + (1 : Int32)))
        · refine z_aload_n C 0 dX12_held_33 rfl ?_
          refine z_getR C qX12_9 dX12_held_34 (fun a_8 => ?_)
          refine z_bipush (v := (66 : Int32)) C dX12_held_37 rfl ?_
          refine z_iconst (v := (2 : Int32)) C dX12_held_39 rfl ?_
          refine z_iload_n C 3 dX12_held_40 rfl ?_
          refine z_imul C dX12_held_41 ?_
          refine z_iadd C dX12_held_42 ?_
          refine z_iaload C dX12_held_43 (fun v_9 => ?_)
          refine z_goto C 48 dX12_held_44 rfl ?_
          refine z_ior C dX12_held_48 ?_
          refine z_nmI (fun y_10 => ?_)
          refine z_istore_n C dX12_held_49 [(2, .int y_10), (0, .ref a0), (1, .int x1), (3, .int x3)] (by decide) rfl ?_
          refine z_iinc (v := x3 + (1 : Int32)) C 3 dX12_held_50 [(3, .int (x3 + (1 : Int32))), (2, .int y_10), (0, .ref a0), (1, .int x1)] rfl rfl (by decide) rfl ?_
          refine z_goto C 4 dX12_held_53 rfl ?_
          exact z_lv _ [2, 3, 1, 0] rfl (hr4 _ a0 x1 y_10 (x3 + (1 : Int32)))
def fX12_held (N : Nat) (h : AH) (a0 : Nat) (x1 : Int32) : Option (Int32 × AH) :=
  zfix (fun _ _ _ _ _ => none) (bX12_held_4 N) N h a0 x1 (0 : Int32) (0 : Int32)
theorem kX12_held {l : Launch} {g : zG} (N : Nat) (h : AH) (a0 : Nat) (x1 : Int32) : zM l g yX12_held cX12_held 4 (some .int) (2) 0 0 (fun v : Int32 => some (.int v)) (fX12_held N h a0 x1) h [.ref a0, .int x1] := by
  refine zM.of (lv0 := [(0, .ref a0), (1, .int x1)]) (by decide) (Nat.le_of_ble_eq_true rfl) rfl (fun X hX C => ?_)
  subst hX
  unfold fX12_held
  refine z_iconst (v := (0 : Int32)) C dX12_held_0 rfl ?_
  refine z_istore_n C dX12_held_1 [(2, .int (0 : Int32)), (0, .ref a0), (1, .int x1)] (by decide) rfl ?_
  refine z_iconst (v := (0 : Int32)) C dX12_held_2 rfl ?_
  refine z_istore_n C dX12_held_3 [(3, .int (0 : Int32)), (2, .int (0 : Int32)), (0, .ref a0), (1, .int x1)] (by decide) rfl ?_
  exact z_lv _ [2, 3, 1, 0] rfl (tX12_held_4 C N N _ a0 x1 (0 : Int32) (0 : Int32))
def bX12_crew_32 (N : Nat) (r6 : AH → Nat → Int32 → Int32 → Option (Int32 × AH)) (r32 : AH → Nat → Int32 → Int32 → Int32 → Int32 → Option (Int32 × AH)) (h : AH) (a0 : Nat) (x1 : Int32) (x2 : Int32) (x3 : Int32) (x4 : Int32) : Option (Int32 × AH) :=
  (zgR h a0 12 0).bind fun a_1 =>
  (zald 0 h a_1 (78 : Int32)).bind fun v_2 =>
  (if v_2 ≤ x4 then
  (if x3 = (0) then
  r6 h a0 x1 (x2 + (-1 : Int32))
  else
  (zis h a0 12).bind fun _ =>
  zcall (fX12_held N h a0 x2) fun v_4 h_3 =>
  (zis h_3 a0 12).bind fun _ =>
  zcall (fX12_held N h_3 a0 (31 : Int32)) fun v_7 h_6 =>
  (if v_4 = v_7 then
  zcall (fX12_many N h_6 x2) fun v_10 h_9 =>
  zcall (fX12_many N h_9 x1) fun v_12 h_11 =>
  (if v_12 < v_10 then
  r6 h_11 a0 x1 (x2 + (-1 : Int32))
  else
  r6 h_11 a0 x2 (x2 + (-1 : Int32)))
  else
  r6 h_6 a0 x1 (x2 + (-1 : Int32))))
  else
  (if x3 = (0) then
  r32 h a0 x1 x2 (0 : Int32) (x4 + (1 : Int32))
  else
  (if ((x2 >>> (x4 &&& 31)) &&& (1 : Int32)) = (1 : Int32) then
  (zis h a0 12).bind fun _ =>
  zcall (fX12_isOut N h a0 x4) fun v_14 h_13 =>
  (if v_14 = (0) then
  r32 h_13 a0 x1 x2 (1 : Int32) (x4 + (1 : Int32))
  else
  r32 h_13 a0 x1 x2 (0 : Int32) (x4 + (1 : Int32)))
  else
  r32 h a0 x1 x2 (1 : Int32) (x4 + (1 : Int32)))))
theorem tX12_crew_32 {X : zX} {g : zG} (C : zC X g yX12_crew cX12_crew 5 3 0 0 (some .int)) (N : Nat) {r6 : AH → Nat → Int32 → Int32 → Option (Int32 × AH)} (hr6 : ∀ (h : AH) (a0 : Nat) (x1 : Int32) (x2 : Int32), ZZ X g 5 (0, 0, 0, 0) (fun v : Int32 => some (.int v)) (r6 h a0 x1 x2) h 6 [(0, .ref a0), (1, .int x1), (2, .int x2)] []) (n : Nat) : ∀ (h : AH) (a0 : Nat) (x1 : Int32) (x2 : Int32) (x3 : Int32) (x4 : Int32), ZZ X g 5 (0, 0, 0, 0) (fun v : Int32 => some (.int v)) (zfix (fun _ _ _ _ _ _ => none) (bX12_crew_32 N r6) n h a0 x1 x2 x3 x4) h 32 [(0, .ref a0), (1, .int x1), (2, .int x2), (3, .int x3), (4, .int x4)] [] := by
  induction n with
  | zero => intro h a0 x1 x2 x3 x4; exact z_none
  | succ n hr32 =>
    intro h a0 x1 x2 x3 x4
    show ZZ X g 5 (0, 0, 0, 0) _ (bX12_crew_32 N r6 (zfix (fun _ _ _ _ _ _ => none) (bX12_crew_32 N r6) n) h a0 x1 x2 x3 x4) h 32 _ _
    unfold bX12_crew_32
    refine z_iload C 4 dX12_crew_32 rfl ?_
    refine z_aload_n C 0 dX12_crew_34 rfl ?_
    refine z_getR C qX12_9 dX12_crew_35 (fun a_1 => ?_)
    refine z_bipush (v := (78 : Int32)) C dX12_crew_38 rfl ?_
    refine z_iaload C dX12_crew_40 (fun v_2 => ?_)
    refine z_icmpge C 79 dX12_crew_41 rfl ?_ ?_
    · refine z_iload_n C 3 dX12_crew_79 rfl ?_
      refine z_ifeq C 112 dX12_crew_80 rfl ?_ ?_
      · refine z_iload_n C 1 dX12_crew_112 rfl ?_
        refine z_istore_n C dX12_crew_113 [(1, .int x1), (0, .ref a0), (2, .int x2), (3, .int x3), (4, .int x4)] (by decide) rfl ?_
        refine z_iinc (v := x2 + (-1 : Int32)) C 2 dX12_crew_114 [(2, .int (x2 + (-1 : Int32))), (1, .int x1), (0, .ref a0), (3, .int x3), (4, .int x4)] rfl rfl (by decide) rfl ?_
        refine z_goto C 6 dX12_crew_117 rfl ?_
        exact z_lv _ [2, 1, 0] rfl (hr6 _ a0 x1 (x2 + (-1 : Int32)))
      · refine z_aload_n C 0 dX12_crew_83 rfl ?_
        refine z_iload_n C 2 dX12_crew_84 rfl ?_
        refine z_bind (fun _ q_5 => ?_)
        refine z_calli (z_runV (As := [.int x2]) (rest := []) C mX12_201 (kX12_held N h a0 x2) q_5 (Nat.le_of_ble_eq_true rfl) ⟨Nat.zero_le _, Nat.zero_le _⟩ dX12_crew_85 rfl rfl (Nat.le_of_ble_eq_true rfl)) rfl (fun v_4 h_3 => ?_)
        refine z_aload_n C 0 dX12_crew_88 rfl ?_
        refine z_bipush (v := (31 : Int32)) C dX12_crew_89 rfl ?_
        refine z_bind (fun _ q_8 => ?_)
        refine z_calli (z_runV (As := [.int (31 : Int32)]) (rest := [.int v_4]) C mX12_201 (kX12_held N h_3 a0 (31 : Int32)) q_8 (Nat.le_of_ble_eq_true rfl) ⟨Nat.zero_le _, Nat.zero_le _⟩ dX12_crew_91 rfl rfl (Nat.le_of_ble_eq_true rfl)) rfl (fun v_7 h_6 => ?_)
        refine z_icmpne C 112 dX12_crew_94 rfl ?_ ?_
        · refine z_iload_n C 1 dX12_crew_112 rfl ?_
          refine z_istore_n C dX12_crew_113 [(1, .int x1), (0, .ref a0), (2, .int x2), (3, .int x3), (4, .int x4)] (by decide) rfl ?_
          refine z_iinc (v := x2 + (-1 : Int32)) C 2 dX12_crew_114 [(2, .int (x2 + (-1 : Int32))), (1, .int x1), (0, .ref a0), (3, .int x3), (4, .int x4)] rfl rfl (by decide) rfl ?_
          refine z_goto C 6 dX12_crew_117 rfl ?_
          exact z_lv _ [2, 1, 0] rfl (hr6 _ a0 x1 (x2 + (-1 : Int32)))
        · refine z_iload_n C 2 dX12_crew_97 rfl ?_
          refine z_calli (z_runS (As := [.int x2]) (rest := []) C mX12_184 (kX12_many N h_6 x2) (Nat.le_of_ble_eq_true rfl) ⟨Nat.zero_le _, Nat.zero_le _⟩ dX12_crew_98 rfl rfl (Nat.le_of_ble_eq_true rfl)) rfl (fun v_10 h_9 => ?_)
          refine z_iload_n C 1 dX12_crew_101 rfl ?_
          refine z_calli (z_runS (As := [.int x1]) (rest := [.int v_10]) C mX12_184 (kX12_many N h_9 x1) (Nat.le_of_ble_eq_true rfl) ⟨Nat.zero_le _, Nat.zero_le _⟩ dX12_crew_102 rfl rfl (Nat.le_of_ble_eq_true rfl)) rfl (fun v_12 h_11 => ?_)
          refine z_icmpgt C 112 dX12_crew_105 rfl ?_ ?_
          · refine z_iload_n C 1 dX12_crew_112 rfl ?_
            refine z_istore_n C dX12_crew_113 [(1, .int x1), (0, .ref a0), (2, .int x2), (3, .int x3), (4, .int x4)] (by decide) rfl ?_
            refine z_iinc (v := x2 + (-1 : Int32)) C 2 dX12_crew_114 [(2, .int (x2 + (-1 : Int32))), (1, .int x1), (0, .ref a0), (3, .int x3), (4, .int x4)] rfl rfl (by decide) rfl ?_
            refine z_goto C 6 dX12_crew_117 rfl ?_
            exact z_lv _ [2, 1, 0] rfl (hr6 _ a0 x1 (x2 + (-1 : Int32)))
          · refine z_iload_n C 2 dX12_crew_108 rfl ?_
            refine z_goto C 113 dX12_crew_109 rfl ?_
            refine z_istore_n C dX12_crew_113 [(1, .int x2), (0, .ref a0), (2, .int x2), (3, .int x3), (4, .int x4)] (by decide) rfl ?_
            refine z_iinc (v := x2 + (-1 : Int32)) C 2 dX12_crew_114 [(2, .int (x2 + (-1 : Int32))), (1, .int x2), (0, .ref a0), (3, .int x3), (4, .int x4)] rfl rfl (by decide) rfl ?_
            refine z_goto C 6 dX12_crew_117 rfl ?_
            exact z_lv _ [2, 1, 0] rfl (hr6 _ a0 x2 (x2 + (-1 : Int32)))
    · refine z_iload_n C 3 dX12_crew_44 rfl ?_
      refine z_ifeq C 71 dX12_crew_45 rfl ?_ ?_
      · refine z_iconst (v := (0 : Int32)) C dX12_crew_71 rfl ?_
        refine z_istore_n C dX12_crew_72 [(3, .int (0 : Int32)), (0, .ref a0), (1, .int x1), (2, .int x2), (4, .int x4)] (by decide) rfl ?_
        refine z_iinc (v := x4 + (1 : Int32)) C 4 dX12_crew_73 [(4, .int (x4 + (1 : Int32))), (3, .int (0 : Int32)), (0, .ref a0), (1, .int x1), (2, .int x2)] rfl rfl (by decide) rfl ?_
        refine z_goto C 32 dX12_crew_76 rfl ?_
        exact z_lv _ [2, 3, 4, 1, 0] rfl (hr32 _ a0 x1 x2 (0 : Int32) (x4 + (1 : Int32)))
      · refine z_iload_n C 2 dX12_crew_48 rfl ?_
        refine z_iload C 4 dX12_crew_49 rfl ?_
        refine z_ishr C dX12_crew_51 ?_
        refine z_iconst (v := (1 : Int32)) C dX12_crew_52 rfl ?_
        refine z_iand C dX12_crew_53 ?_
        refine z_iconst (v := (1 : Int32)) C dX12_crew_54 rfl ?_
        refine z_icmpne C 67 dX12_crew_55 rfl ?_ ?_
        · refine z_iconst (v := (1 : Int32)) C dX12_crew_67 rfl ?_
          refine z_goto C 72 dX12_crew_68 rfl ?_
          refine z_istore_n C dX12_crew_72 [(3, .int (1 : Int32)), (0, .ref a0), (1, .int x1), (2, .int x2), (4, .int x4)] (by decide) rfl ?_
          refine z_iinc (v := x4 + (1 : Int32)) C 4 dX12_crew_73 [(4, .int (x4 + (1 : Int32))), (3, .int (1 : Int32)), (0, .ref a0), (1, .int x1), (2, .int x2)] rfl rfl (by decide) rfl ?_
          refine z_goto C 32 dX12_crew_76 rfl ?_
          exact z_lv _ [2, 3, 4, 1, 0] rfl (hr32 _ a0 x1 x2 (1 : Int32) (x4 + (1 : Int32)))
        · refine z_aload_n C 0 dX12_crew_58 rfl ?_
          refine z_iload C 4 dX12_crew_59 rfl ?_
          refine z_bind (fun _ q_15 => ?_)
          refine z_calli (z_runV (As := [.int x4]) (rest := []) C mX12_198 (kX12_isOut N h a0 x4) q_15 (Nat.le_of_ble_eq_true rfl) ⟨Nat.zero_le _, Nat.zero_le _⟩ dX12_crew_61 rfl rfl (Nat.le_of_ble_eq_true rfl)) rfl (fun v_14 h_13 => ?_)
          refine z_ifne C 71 dX12_crew_64 rfl ?_ ?_
          · refine z_iconst (v := (0 : Int32)) C dX12_crew_71 rfl ?_
            refine z_istore_n C dX12_crew_72 [(3, .int (0 : Int32)), (0, .ref a0), (1, .int x1), (2, .int x2), (4, .int x4)] (by decide) rfl ?_
            refine z_iinc (v := x4 + (1 : Int32)) C 4 dX12_crew_73 [(4, .int (x4 + (1 : Int32))), (3, .int (0 : Int32)), (0, .ref a0), (1, .int x1), (2, .int x2)] rfl rfl (by decide) rfl ?_
            refine z_goto C 32 dX12_crew_76 rfl ?_
            exact z_lv _ [2, 3, 4, 1, 0] rfl (hr32 _ a0 x1 x2 (0 : Int32) (x4 + (1 : Int32)))
          · refine z_iconst (v := (1 : Int32)) C dX12_crew_67 rfl ?_
            refine z_goto C 72 dX12_crew_68 rfl ?_
            refine z_istore_n C dX12_crew_72 [(3, .int (1 : Int32)), (0, .ref a0), (1, .int x1), (2, .int x2), (4, .int x4)] (by decide) rfl ?_
            refine z_iinc (v := x4 + (1 : Int32)) C 4 dX12_crew_73 [(4, .int (x4 + (1 : Int32))), (3, .int (1 : Int32)), (0, .ref a0), (1, .int x1), (2, .int x2)] rfl rfl (by decide) rfl ?_
            refine z_goto C 32 dX12_crew_76 rfl ?_
            exact z_lv _ [2, 3, 4, 1, 0] rfl (hr32 _ a0 x1 x2 (1 : Int32) (x4 + (1 : Int32)))
def bX12_crew_6 (N : Nat) (r6 : AH → Nat → Int32 → Int32 → Option (Int32 × AH)) (h : AH) (a0 : Nat) (x1 : Int32) (x2 : Int32) : Option (Int32 × AH) :=
  (if x2 < (0) then
  some (x1, h)
  else
  (zgR h a0 12 0).bind fun a_1 =>
  (zald 0 h a_1 (78 : Int32)).bind fun v_2 =>
  (if ((1 : Int32) <<< (v_2 &&& 31)) ≤ x2 then
  zfix (fun _ _ _ _ _ _ => none) (bX12_crew_32 N r6) N h a0 x1 x2 (0 : Int32) (0 : Int32)
  else
  zfix (fun _ _ _ _ _ _ => none) (bX12_crew_32 N r6) N h a0 x1 x2 (1 : Int32) (0 : Int32)))
theorem tX12_crew_6 {X : zX} {g : zG} (C : zC X g yX12_crew cX12_crew 5 3 0 0 (some .int)) (N : Nat) (n : Nat) : ∀ (h : AH) (a0 : Nat) (x1 : Int32) (x2 : Int32), ZZ X g 5 (0, 0, 0, 0) (fun v : Int32 => some (.int v)) (zfix (fun _ _ _ _ => none) (bX12_crew_6 N) n h a0 x1 x2) h 6 [(0, .ref a0), (1, .int x1), (2, .int x2)] [] := by
  induction n with
  | zero => intro h a0 x1 x2; exact z_none
  | succ n hr6 =>
    intro h a0 x1 x2
    show ZZ X g 5 (0, 0, 0, 0) _ (bX12_crew_6 N (zfix (fun _ _ _ _ => none) (bX12_crew_6 N) n) h a0 x1 x2) h 6 _ _
    unfold bX12_crew_6
    refine z_iload_n C 2 dX12_crew_6 rfl ?_
    refine z_iflt C 120 dX12_crew_7 rfl ?_ ?_
    · refine z_iload_n C 1 dX12_crew_120 rfl ?_
      exact z_ireturn C ⟨rfl, rfl⟩ dX12_crew_121
    · refine z_iload_n C 2 dX12_crew_10 rfl ?_
      refine z_iconst (v := (1 : Int32)) C dX12_crew_11 rfl ?_
      refine z_aload_n C 0 dX12_crew_12 rfl ?_
      refine z_getR C qX12_9 dX12_crew_13 (fun a_1 => ?_)
      refine z_bipush (v := (78 : Int32)) C dX12_crew_16 rfl ?_
      refine z_iaload C dX12_crew_18 (fun v_2 => ?_)
      refine z_ishl C dX12_crew_19 ?_
      refine z_icmpge C 27 dX12_crew_20 rfl ?_ ?_
      · refine z_iconst (v := (0 : Int32)) C dX12_crew_27 rfl ?_
        refine z_istore_n C dX12_crew_28 [(3, .int (0 : Int32)), (0, .ref a0), (1, .int x1), (2, .int x2)] (by decide) rfl ?_
        refine z_iconst (v := (0 : Int32)) C dX12_crew_29 rfl ?_
        refine z_istore C dX12_crew_30 [(4, .int (0 : Int32)), (3, .int (0 : Int32)), (0, .ref a0), (1, .int x1), (2, .int x2)] (by decide) rfl ?_
        exact z_lv _ [2, 3, 4, 1, 0] rfl (tX12_crew_32 C N hr6 N _ a0 x1 x2 (0 : Int32) (0 : Int32))
      · refine z_iconst (v := (1 : Int32)) C dX12_crew_23 rfl ?_
        refine z_goto C 28 dX12_crew_24 rfl ?_
        refine z_istore_n C dX12_crew_28 [(3, .int (1 : Int32)), (0, .ref a0), (1, .int x1), (2, .int x2)] (by decide) rfl ?_
        refine z_iconst (v := (0 : Int32)) C dX12_crew_29 rfl ?_
        refine z_istore C dX12_crew_30 [(4, .int (0 : Int32)), (3, .int (1 : Int32)), (0, .ref a0), (1, .int x1), (2, .int x2)] (by decide) rfl ?_
        exact z_lv _ [2, 3, 4, 1, 0] rfl (tX12_crew_32 C N hr6 N _ a0 x1 x2 (1 : Int32) (0 : Int32))
def fX12_crew (N : Nat) (h : AH) (a0 : Nat) : Option (Int32 × AH) :=
  zfix (fun _ _ _ _ => none) (bX12_crew_6 N) N h a0 (31 : Int32) (31 : Int32)
theorem kX12_crew {l : Launch} {g : zG} (N : Nat) (h : AH) (a0 : Nat) : zM l g yX12_crew cX12_crew 5 (some .int) (3) 0 0 (fun v : Int32 => some (.int v)) (fX12_crew N h a0) h [.ref a0] := by
  refine zM.of (lv0 := [(0, .ref a0)]) (by decide) (Nat.le_of_ble_eq_true rfl) rfl (fun X hX C => ?_)
  subst hX
  unfold fX12_crew
  refine z_bipush (v := (31 : Int32)) C dX12_crew_0 rfl ?_
  refine z_istore_n C dX12_crew_2 [(1, .int (31 : Int32)), (0, .ref a0)] (by decide) rfl ?_
  refine z_bipush (v := (31 : Int32)) C dX12_crew_3 rfl ?_
  refine z_istore_n C dX12_crew_5 [(2, .int (31 : Int32)), (1, .int (31 : Int32)), (0, .ref a0)] (by decide) rfl ?_
  exact z_lv _ [2, 1, 0] rfl (tX12_crew_6 C N N _ a0 (31 : Int32) (31 : Int32))
def fX12_lostWith (N : Nat) (h : AH) (a0 : Nat) (x1 : Int32) : Option (Int32 × AH) :=
  (zis h a0 12).bind fun _ =>
  zcall (fX12_held N h a0 (31 : Int32)) fun v_2 h_1 =>
  (zis h_1 a0 12).bind fun _ =>
  zcall (fX12_held N h_1 a0 ((31 : Int32) &&& (((1 : Int32) <<< (x1 &&& 31)) ^^^ (-1 : Int32)))) fun v_5 h_4 =>
  some (v_2 &&& (v_5 ^^^ (-1 : Int32)), h_4)
theorem kX12_lostWith {l : Launch} {g : zG} (N : Nat) (h : AH) (a0 : Nat) (x1 : Int32) : zM l g yX12_lostWith cX12_lostWith 2 (some .int) (3) 0 0 (fun v : Int32 => some (.int v)) (fX12_lostWith N h a0 x1) h [.ref a0, .int x1] := by
  refine zM.of (lv0 := [(0, .ref a0), (1, .int x1)]) (by decide) (Nat.le_of_ble_eq_true rfl) rfl (fun X hX C => ?_)
  subst hX
  unfold fX12_lostWith
  refine z_aload_n C 0 dX12_lostWith_0 rfl ?_
  refine z_bipush (v := (31 : Int32)) C dX12_lostWith_1 rfl ?_
  refine z_bind (fun _ q_3 => ?_)
  refine z_calli (z_runV (As := [.int (31 : Int32)]) (rest := []) C mX12_201 (kX12_held N h a0 (31 : Int32)) q_3 (Nat.le_of_ble_eq_true rfl) ⟨Nat.zero_le _, Nat.zero_le _⟩ dX12_lostWith_3 rfl rfl (Nat.le_of_ble_eq_true rfl)) rfl (fun v_2 h_1 => ?_)
  refine z_aload_n C 0 dX12_lostWith_6 rfl ?_
  refine z_bipush (v := (31 : Int32)) C dX12_lostWith_7 rfl ?_
  refine z_iconst (v := (1 : Int32)) C dX12_lostWith_9 rfl ?_
  refine z_iload_n C 1 dX12_lostWith_10 rfl ?_
  refine z_ishl C dX12_lostWith_11 ?_
  refine z_iconst (v := (-1 : Int32)) C dX12_lostWith_12 rfl ?_
  refine z_ixor C dX12_lostWith_13 ?_
  refine z_iand C dX12_lostWith_14 ?_
  refine z_bind (fun _ q_6 => ?_)
  refine z_calli (z_runV (As := [.int ((31 : Int32) &&& (((1 : Int32) <<< (x1 &&& 31)) ^^^ (-1 : Int32)))]) (rest := [.int v_2]) C mX12_201 (kX12_held N h_1 a0 ((31 : Int32) &&& (((1 : Int32) <<< (x1 &&& 31)) ^^^ (-1 : Int32)))) q_6 (Nat.le_of_ble_eq_true rfl) ⟨Nat.zero_le _, Nat.zero_le _⟩ dX12_lostWith_15 rfl rfl (Nat.le_of_ble_eq_true rfl)) rfl (fun v_5 h_4 => ?_)
  refine z_iconst (v := (-1 : Int32)) C dX12_lostWith_18 rfl ?_
  refine z_ixor C dX12_lostWith_19 ?_
  refine z_iand C dX12_lostWith_20 ?_
  exact z_ireturn C ⟨rfl, rfl⟩ dX12_lostWith_21
def fX12_lost (N : Nat) (h : AH) (a0 : Nat) (x1 : Int32) : Option (Int32 × AH) :=
  (zis h a0 12).bind fun _ =>
  zcall (fX12_isFootman N h a0 x1) fun v_2 h_1 =>
  (if v_2 = (0) then
  some ((-1 : Int32), h_1)
  else
  (zis h_1 a0 12).bind fun _ =>
  zcall (fX12_lostWith N h_1 a0 x1) fun v_5 h_4 =>
  some (v_5, h_4))
theorem kX12_lost {l : Launch} {g : zG} (N : Nat) (h : AH) (a0 : Nat) (x1 : Int32) : zM l g yX12_lost cX12_lost 2 (some .int) (4) 0 0 (fun v : Int32 => some (.int v)) (fX12_lost N h a0 x1) h [.ref a0, .int x1] := by
  refine zM.of (lv0 := [(0, .ref a0), (1, .int x1)]) (by decide) (Nat.le_of_ble_eq_true rfl) rfl (fun X hX C => ?_)
  subst hX
  unfold fX12_lost
  refine z_aload_n C 0 dX12_lost_0 rfl ?_
  refine z_iload_n C 1 dX12_lost_1 rfl ?_
  refine z_bind (fun _ q_3 => ?_)
  refine z_calli (z_runV (As := [.int x1]) (rest := []) C mX12_105 (kX12_isFootman N h a0 x1) q_3 (Nat.le_of_ble_eq_true rfl) ⟨Nat.zero_le _, Nat.zero_le _⟩ dX12_lost_2 rfl rfl (Nat.le_of_ble_eq_true rfl)) rfl (fun v_2 h_1 => ?_)
  refine z_ifeq C 16 dX12_lost_5 rfl ?_ ?_
  · refine z_iconst (v := (-1 : Int32)) C dX12_lost_16 rfl ?_
    exact z_ireturn C ⟨rfl, rfl⟩ dX12_lost_17
  · refine z_aload_n C 0 dX12_lost_8 rfl ?_
    refine z_iload_n C 1 dX12_lost_9 rfl ?_
    refine z_bind (fun _ q_6 => ?_)
    refine z_calli (z_runV (As := [.int x1]) (rest := []) C mX12_204 (kX12_lostWith N h_1 a0 x1) q_6 (Nat.le_of_ble_eq_true rfl) ⟨Nat.zero_le _, Nat.zero_le _⟩ dX12_lost_10 rfl rfl (Nat.le_of_ble_eq_true rfl)) rfl (fun v_5 h_4 => ?_)
    refine z_goto C 17 dX12_lost_13 rfl ?_
    exact z_ireturn C ⟨rfl, rfl⟩ dX12_lost_17
def bX12_outs_4 (N : Nat) (r4 : AH → Nat → Int32 → Int32 → Option (Int32 × AH)) (h : AH) (a0 : Nat) (x1 : Int32) (x2 : Int32) : Option (Int32 × AH) :=
  (zgR h a0 12 0).bind fun a_1 =>
  (zald 0 h a_1 (78 : Int32)).bind fun v_2 =>
  (if v_2 ≤ x2 then
  some (x1, h)
  else
  (zis h a0 12).bind fun _ =>
  zcall (fX12_isOut N h a0 x2) fun v_4 h_3 =>
  (if v_4 = (0) then
  znm (x1 ||| (0 : Int32)) fun y_6 =>
  r4 h_3 a0 y_6 (x2 + (1 : Int32))
  else
  znm (x1 ||| ((1 : Int32) <<< (x2 &&& 31))) fun y_7 =>
  r4 h_3 a0 y_7 (x2 + (1 : Int32))))
theorem tX12_outs_4 {X : zX} {g : zG} (C : zC X g yX12_outs cX12_outs 3 2 0 0 (some .int)) (N : Nat) (n : Nat) : ∀ (h : AH) (a0 : Nat) (x1 : Int32) (x2 : Int32), ZZ X g 3 (0, 0, 0, 0) (fun v : Int32 => some (.int v)) (zfix (fun _ _ _ _ => none) (bX12_outs_4 N) n h a0 x1 x2) h 4 [(0, .ref a0), (1, .int x1), (2, .int x2)] [] := by
  induction n with
  | zero => intro h a0 x1 x2; exact z_none
  | succ n hr4 =>
    intro h a0 x1 x2
    show ZZ X g 3 (0, 0, 0, 0) _ (bX12_outs_4 N (zfix (fun _ _ _ _ => none) (bX12_outs_4 N) n) h a0 x1 x2) h 4 _ _
    unfold bX12_outs_4
    refine z_iload_n C 2 dX12_outs_4 rfl ?_
    refine z_aload_n C 0 dX12_outs_5 rfl ?_
    refine z_getR C qX12_9 dX12_outs_6 (fun a_1 => ?_)
    refine z_bipush (v := (78 : Int32)) C dX12_outs_9 rfl ?_
    refine z_iaload C dX12_outs_11 (fun v_2 => ?_)
    refine z_icmpge C 39 dX12_outs_12 rfl ?_ ?_
    · refine z_iload_n C 1 dX12_outs_39 rfl ?_
      exact z_ireturn C ⟨rfl, rfl⟩ dX12_outs_40
    · refine z_iload_n C 1 dX12_outs_15 rfl ?_
      refine z_aload_n C 0 dX12_outs_16 rfl ?_
      refine z_iload_n C 2 dX12_outs_17 rfl ?_
      refine z_bind (fun _ q_5 => ?_)
      refine z_calli (z_runV (As := [.int x2]) (rest := [.int x1]) C mX12_198 (kX12_isOut N h a0 x2) q_5 (Nat.le_of_ble_eq_true rfl) ⟨Nat.zero_le _, Nat.zero_le _⟩ dX12_outs_18 rfl rfl (Nat.le_of_ble_eq_true rfl)) rfl (fun v_4 h_3 => ?_)
      refine z_ifeq C 30 dX12_outs_21 rfl ?_ ?_
      · refine z_iconst (v := (0 : Int32)) C dX12_outs_30 rfl ?_
        refine z_ior C dX12_outs_31 ?_
        refine z_nmI (fun y_6 => ?_)
        refine z_istore_n C dX12_outs_32 [(1, .int y_6), (0, .ref a0), (2, .int x2)] (by decide) rfl ?_
        refine z_iinc (v := x2 + (1 : Int32)) C 2 dX12_outs_33 [(2, .int (x2 + (1 : Int32))), (1, .int y_6), (0, .ref a0)] rfl rfl (by decide) rfl ?_
        refine z_goto C 4 dX12_outs_36 rfl ?_
        exact z_lv _ [2, 1, 0] rfl (hr4 _ a0 y_6 (x2 + (1 : Int32)))
      · refine z_iconst (v := (1 : Int32)) C dX12_outs_24 rfl ?_
        refine z_iload_n C 2 dX12_outs_25 rfl ?_
        refine z_ishl C dX12_outs_26 ?_
        refine z_goto C 31 dX12_outs_27 rfl ?_
        refine z_ior C dX12_outs_31 ?_
        refine z_nmI (fun y_7 => ?_)
        refine z_istore_n C dX12_outs_32 [(1, .int y_7), (0, .ref a0), (2, .int x2)] (by decide) rfl ?_
        refine z_iinc (v := x2 + (1 : Int32)) C 2 dX12_outs_33 [(2, .int (x2 + (1 : Int32))), (1, .int y_7), (0, .ref a0)] rfl rfl (by decide) rfl ?_
        refine z_goto C 4 dX12_outs_36 rfl ?_
        exact z_lv _ [2, 1, 0] rfl (hr4 _ a0 y_7 (x2 + (1 : Int32)))
def fX12_outs (N : Nat) (h : AH) (a0 : Nat) : Option (Int32 × AH) :=
  zfix (fun _ _ _ _ => none) (bX12_outs_4 N) N h a0 (0 : Int32) (0 : Int32)
theorem kX12_outs {l : Launch} {g : zG} (N : Nat) (h : AH) (a0 : Nat) : zM l g yX12_outs cX12_outs 3 (some .int) (2) 0 0 (fun v : Int32 => some (.int v)) (fX12_outs N h a0) h [.ref a0] := by
  refine zM.of (lv0 := [(0, .ref a0)]) (by decide) (Nat.le_of_ble_eq_true rfl) rfl (fun X hX C => ?_)
  subst hX
  unfold fX12_outs
  refine z_iconst (v := (0 : Int32)) C dX12_outs_0 rfl ?_
  refine z_istore_n C dX12_outs_1 [(1, .int (0 : Int32)), (0, .ref a0)] (by decide) rfl ?_
  refine z_iconst (v := (0 : Int32)) C dX12_outs_2 rfl ?_
  refine z_istore_n C dX12_outs_3 [(2, .int (0 : Int32)), (1, .int (0 : Int32)), (0, .ref a0)] (by decide) rfl ?_
  exact z_lv _ [2, 1, 0] rfl (tX12_outs_4 C N N _ a0 (0 : Int32) (0 : Int32))
def bX12_isSafe_4 (N : Nat) (r4 : AH → Nat → Int32 → Int32 → Option (Int32 × AH)) (h : AH) (a0 : Nat) (x1 : Int32) (x2 : Int32) : Option (Int32 × AH) :=
  (zgR h a0 12 0).bind fun a_1 =>
  (zald 0 h a_1 (78 : Int32)).bind fun v_2 =>
  (if v_2 ≤ x2 then
  (if x1 = (0) then
  some ((1 : Int32), h)
  else
  some ((0 : Int32), h))
  else
  (zis h a0 12).bind fun _ =>
  zcall (fX12_lostWith N h a0 x2) fun v_4 h_3 =>
  znm (x1 ||| v_4) fun y_6 =>
  r4 h_3 a0 y_6 (x2 + (1 : Int32)))
theorem tX12_isSafe_4 {X : zX} {g : zG} (C : zC X g yX12_isSafe cX12_isSafe 3 4 0 0 (some .int)) (N : Nat) (n : Nat) : ∀ (h : AH) (a0 : Nat) (x1 : Int32) (x2 : Int32), ZZ X g 3 (0, 0, 0, 0) (fun v : Int32 => some (.int v)) (zfix (fun _ _ _ _ => none) (bX12_isSafe_4 N) n h a0 x1 x2) h 4 [(0, .ref a0), (1, .int x1), (2, .int x2)] [] := by
  induction n with
  | zero => intro h a0 x1 x2; exact z_none
  | succ n hr4 =>
    intro h a0 x1 x2
    show ZZ X g 3 (0, 0, 0, 0) _ (bX12_isSafe_4 N (zfix (fun _ _ _ _ => none) (bX12_isSafe_4 N) n) h a0 x1 x2) h 4 _ _
    unfold bX12_isSafe_4
    refine z_iload_n C 2 dX12_isSafe_4 rfl ?_
    refine z_aload_n C 0 dX12_isSafe_5 rfl ?_
    refine z_getR C qX12_9 dX12_isSafe_6 (fun a_1 => ?_)
    refine z_bipush (v := (78 : Int32)) C dX12_isSafe_9 rfl ?_
    refine z_iaload C dX12_isSafe_11 (fun v_2 => ?_)
    refine z_icmpge C 29 dX12_isSafe_12 rfl ?_ ?_
    · refine z_iload_n C 1 dX12_isSafe_29 rfl ?_
      refine z_ifne C 37 dX12_isSafe_30 rfl ?_ ?_
      · refine z_iconst (v := (0 : Int32)) C dX12_isSafe_37 rfl ?_
        exact z_ireturn C ⟨rfl, rfl⟩ dX12_isSafe_38
      · refine z_iconst (v := (1 : Int32)) C dX12_isSafe_33 rfl ?_
        refine z_goto C 38 dX12_isSafe_34 rfl ?_
        exact z_ireturn C ⟨rfl, rfl⟩ dX12_isSafe_38
    · refine z_iload_n C 1 dX12_isSafe_15 rfl ?_
      refine z_aload_n C 0 dX12_isSafe_16 rfl ?_
      refine z_iload_n C 2 dX12_isSafe_17 rfl ?_
      refine z_bind (fun _ q_5 => ?_)
      refine z_calli (z_runV (As := [.int x2]) (rest := [.int x1]) C mX12_204 (kX12_lostWith N h a0 x2) q_5 (Nat.le_of_ble_eq_true rfl) ⟨Nat.zero_le _, Nat.zero_le _⟩ dX12_isSafe_18 rfl rfl (Nat.le_of_ble_eq_true rfl)) rfl (fun v_4 h_3 => ?_)
      refine z_ior C dX12_isSafe_21 ?_
      refine z_nmI (fun y_6 => ?_)
      refine z_istore_n C dX12_isSafe_22 [(1, .int y_6), (0, .ref a0), (2, .int x2)] (by decide) rfl ?_
      refine z_iinc (v := x2 + (1 : Int32)) C 2 dX12_isSafe_23 [(2, .int (x2 + (1 : Int32))), (1, .int y_6), (0, .ref a0)] rfl rfl (by decide) rfl ?_
      refine z_goto C 4 dX12_isSafe_26 rfl ?_
      exact z_lv _ [2, 1, 0] rfl (hr4 _ a0 y_6 (x2 + (1 : Int32)))
def fX12_isSafe (N : Nat) (h : AH) (a0 : Nat) : Option (Int32 × AH) :=
  zfix (fun _ _ _ _ => none) (bX12_isSafe_4 N) N h a0 (0 : Int32) (0 : Int32)
theorem kX12_isSafe {l : Launch} {g : zG} (N : Nat) (h : AH) (a0 : Nat) : zM l g yX12_isSafe cX12_isSafe 3 (some .int) (4) 0 0 (fun v : Int32 => some (.int v)) (fX12_isSafe N h a0) h [.ref a0] := by
  refine zM.of (lv0 := [(0, .ref a0)]) (by decide) (Nat.le_of_ble_eq_true rfl) rfl (fun X hX C => ?_)
  subst hX
  unfold fX12_isSafe
  refine z_iconst (v := (0 : Int32)) C dX12_isSafe_0 rfl ?_
  refine z_istore_n C dX12_isSafe_1 [(1, .int (0 : Int32)), (0, .ref a0)] (by decide) rfl ?_
  refine z_iconst (v := (0 : Int32)) C dX12_isSafe_2 rfl ?_
  refine z_istore_n C dX12_isSafe_3 [(2, .int (0 : Int32)), (1, .int (0 : Int32)), (0, .ref a0)] (by decide) rfl ?_
  exact z_lv _ [2, 1, 0] rfl (tX12_isSafe_4 C N N _ a0 (0 : Int32) (0 : Int32))
def fX12_told (N : Nat) (h : AH) (a0 : Nat) (x1 : Int32) : Option (Int32 × AH) :=
  (if x1 = (0 : Int32) then
  (zgR h a0 12 0).bind fun a_2 =>
  (zald 0 h a_2 (79 : Int32)).bind fun v_3 =>
  some (v_3, h)
  else if x1 = (1 : Int32) then
  (zis h a0 12).bind fun _ =>
  zcall (fX12_hoursNow N h a0) fun v_6 h_5 =>
  some (v_6, h_5)
  else if x1 = (2 : Int32) then
  (zis h a0 12).bind fun _ =>
  zcall (fX12_done N h a0) fun v_10 h_9 =>
  some (v_10, h_9)
  else if x1 = (3 : Int32) then
  (zis h a0 12).bind fun _ =>
  zcall (fX12_tellings N h a0) fun v_14 h_13 =>
  some (v_14, h_13)
  else if x1 = (4 : Int32) then
  (zis h a0 12).bind fun _ =>
  zcall (fX12_days N h a0 (0 : Int32)) fun v_18 h_17 =>
  some (v_18, h_17)
  else if x1 = (5 : Int32) then
  (zis h a0 12).bind fun _ =>
  zcall (fX12_days N h a0 (1 : Int32)) fun v_22 h_21 =>
  some (v_22, h_21)
  else if x1 = (6 : Int32) then
  (zis h a0 12).bind fun _ =>
  zcall (fX12_days N h a0 (1 : Int32)) fun v_26 h_25 =>
  (zis h_25 a0 12).bind fun _ =>
  zcall (fX12_hoursNow N h_25 a0) fun v_29 h_28 =>
  (if v_26 ≤ v_29 then
  some ((0 : Int32), h_28)
  else
  some ((1 : Int32), h_28))
  else if x1 = (7 : Int32) then
  (zis h a0 12).bind fun _ =>
  zcall (fX12_held N h a0 (31 : Int32)) fun v_33 h_32 =>
  some (v_33, h_32)
  else if x1 = (8 : Int32) then
  (zis h a0 12).bind fun _ =>
  zcall (fX12_crew N h a0) fun v_37 h_36 =>
  some (v_37, h_36)
  else if x1 = (9 : Int32) then
  (zis h a0 12).bind fun _ =>
  zcall (fX12_isSafe N h a0) fun v_41 h_40 =>
  some (v_41, h_40)
  else if x1 = (10 : Int32) then
  (zis h a0 12).bind fun _ =>
  zcall (fX12_outs N h a0) fun v_45 h_44 =>
  some (v_45, h_44)
  else 
  some ((-1 : Int32), h))
theorem kX12_told {l : Launch} {g : zG} (N : Nat) (h : AH) (a0 : Nat) (x1 : Int32) : zM l g yX12_told cX12_told 2 (some .int) (33) 0 0 (fun v : Int32 => some (.int v)) (fX12_told N h a0 x1) h [.ref a0, .int x1] := by
  refine zM.of (lv0 := [(0, .ref a0), (1, .int x1)]) (by decide) (Nat.le_of_ble_eq_true rfl) rfl (fun X hX C => ?_)
  subst hX
  unfold fX12_told
  refine z_iload_n C 1 dX12_told_0 rfl ?_
  refine z_ite (fun q_1 => ?_) (fun q_1 => ?_)
  · subst q_1
    refine z_table C 60 dX12_told_1 (by decide) (by decide) rfl rfl ?_
    refine z_aload_n C 0 dX12_told_60 rfl ?_
    refine z_getR C qX12_9 dX12_told_61 (fun a_2 => ?_)
    refine z_bipush (v := (79 : Int32)) C dX12_told_64 rfl ?_
    refine z_iaload C dX12_told_66 (fun v_3 => ?_)
    exact z_ireturn C ⟨rfl, rfl⟩ dX12_told_67
  refine z_ite (fun q_4 => ?_) (fun q_4 => ?_)
  · subst q_4
    refine z_table C 68 dX12_told_1 (by decide) (by decide) rfl rfl ?_
    refine z_aload_n C 0 dX12_told_68 rfl ?_
    refine z_bind (fun _ q_7 => ?_)
    refine z_calli (z_runV (As := []) (rest := []) C mX12_207 (kX12_hoursNow N h a0) q_7 (Nat.le_of_ble_eq_true rfl) ⟨Nat.zero_le _, Nat.zero_le _⟩ dX12_told_69 rfl rfl (Nat.le_of_ble_eq_true rfl)) rfl (fun v_6 h_5 => ?_)
    exact z_ireturn C ⟨rfl, rfl⟩ dX12_told_72
  refine z_ite (fun q_8 => ?_) (fun q_8 => ?_)
  · subst q_8
    refine z_table C 73 dX12_told_1 (by decide) (by decide) rfl rfl ?_
    refine z_aload_n C 0 dX12_told_73 rfl ?_
    refine z_bind (fun _ q_11 => ?_)
    refine z_calli (z_runV (As := []) (rest := []) C mX12_210 (kX12_done N h a0) q_11 (Nat.le_of_ble_eq_true rfl) ⟨Nat.zero_le _, Nat.zero_le _⟩ dX12_told_74 rfl rfl (Nat.le_of_ble_eq_true rfl)) rfl (fun v_10 h_9 => ?_)
    exact z_ireturn C ⟨rfl, rfl⟩ dX12_told_77
  refine z_ite (fun q_12 => ?_) (fun q_12 => ?_)
  · subst q_12
    refine z_table C 78 dX12_told_1 (by decide) (by decide) rfl rfl ?_
    refine z_aload_n C 0 dX12_told_78 rfl ?_
    refine z_bind (fun _ q_15 => ?_)
    refine z_calli (z_runV (As := []) (rest := []) C mX12_213 (kX12_tellings N h a0) q_15 (Nat.le_of_ble_eq_true rfl) ⟨Nat.zero_le _, Nat.zero_le _⟩ dX12_told_79 rfl rfl (Nat.le_of_ble_eq_true rfl)) rfl (fun v_14 h_13 => ?_)
    exact z_ireturn C ⟨rfl, rfl⟩ dX12_told_82
  refine z_ite (fun q_16 => ?_) (fun q_16 => ?_)
  · subst q_16
    refine z_table C 83 dX12_told_1 (by decide) (by decide) rfl rfl ?_
    refine z_aload_n C 0 dX12_told_83 rfl ?_
    refine z_iconst (v := (0 : Int32)) C dX12_told_84 rfl ?_
    refine z_bind (fun _ q_19 => ?_)
    refine z_calli (z_runV (As := [.int (0 : Int32)]) (rest := []) C mX12_216 (kX12_days N h a0 (0 : Int32)) q_19 (Nat.le_of_ble_eq_true rfl) ⟨Nat.zero_le _, Nat.zero_le _⟩ dX12_told_85 rfl rfl (Nat.le_of_ble_eq_true rfl)) rfl (fun v_18 h_17 => ?_)
    exact z_ireturn C ⟨rfl, rfl⟩ dX12_told_88
  refine z_ite (fun q_20 => ?_) (fun q_20 => ?_)
  · subst q_20
    refine z_table C 89 dX12_told_1 (by decide) (by decide) rfl rfl ?_
    refine z_aload_n C 0 dX12_told_89 rfl ?_
    refine z_iconst (v := (1 : Int32)) C dX12_told_90 rfl ?_
    refine z_bind (fun _ q_23 => ?_)
    refine z_calli (z_runV (As := [.int (1 : Int32)]) (rest := []) C mX12_216 (kX12_days N h a0 (1 : Int32)) q_23 (Nat.le_of_ble_eq_true rfl) ⟨Nat.zero_le _, Nat.zero_le _⟩ dX12_told_91 rfl rfl (Nat.le_of_ble_eq_true rfl)) rfl (fun v_22 h_21 => ?_)
    exact z_ireturn C ⟨rfl, rfl⟩ dX12_told_94
  refine z_ite (fun q_24 => ?_) (fun q_24 => ?_)
  · subst q_24
    refine z_table C 95 dX12_told_1 (by decide) (by decide) rfl rfl ?_
    refine z_aload_n C 0 dX12_told_95 rfl ?_
    refine z_iconst (v := (1 : Int32)) C dX12_told_96 rfl ?_
    refine z_bind (fun _ q_27 => ?_)
    refine z_calli (z_runV (As := [.int (1 : Int32)]) (rest := []) C mX12_216 (kX12_days N h a0 (1 : Int32)) q_27 (Nat.le_of_ble_eq_true rfl) ⟨Nat.zero_le _, Nat.zero_le _⟩ dX12_told_97 rfl rfl (Nat.le_of_ble_eq_true rfl)) rfl (fun v_26 h_25 => ?_)
    refine z_aload_n C 0 dX12_told_100 rfl ?_
    refine z_bind (fun _ q_30 => ?_)
    refine z_calli (z_runV (As := []) (rest := [.int v_26]) C mX12_207 (kX12_hoursNow N h_25 a0) q_30 (Nat.le_of_ble_eq_true rfl) ⟨Nat.zero_le _, Nat.zero_le _⟩ dX12_told_101 rfl rfl (Nat.le_of_ble_eq_true rfl)) rfl (fun v_29 h_28 => ?_)
    refine z_icmple C 111 dX12_told_104 rfl ?_ ?_
    · refine z_iconst (v := (0 : Int32)) C dX12_told_111 rfl ?_
      exact z_ireturn C ⟨rfl, rfl⟩ dX12_told_112
    · refine z_iconst (v := (1 : Int32)) C dX12_told_107 rfl ?_
      refine z_goto C 112 dX12_told_108 rfl ?_
      exact z_ireturn C ⟨rfl, rfl⟩ dX12_told_112
  refine z_ite (fun q_31 => ?_) (fun q_31 => ?_)
  · subst q_31
    refine z_table C 113 dX12_told_1 (by decide) (by decide) rfl rfl ?_
    refine z_aload_n C 0 dX12_told_113 rfl ?_
    refine z_bipush (v := (31 : Int32)) C dX12_told_114 rfl ?_
    refine z_bind (fun _ q_34 => ?_)
    refine z_calli (z_runV (As := [.int (31 : Int32)]) (rest := []) C mX12_201 (kX12_held N h a0 (31 : Int32)) q_34 (Nat.le_of_ble_eq_true rfl) ⟨Nat.zero_le _, Nat.zero_le _⟩ dX12_told_116 rfl rfl (Nat.le_of_ble_eq_true rfl)) rfl (fun v_33 h_32 => ?_)
    exact z_ireturn C ⟨rfl, rfl⟩ dX12_told_119
  refine z_ite (fun q_35 => ?_) (fun q_35 => ?_)
  · subst q_35
    refine z_table C 120 dX12_told_1 (by decide) (by decide) rfl rfl ?_
    refine z_aload_n C 0 dX12_told_120 rfl ?_
    refine z_bind (fun _ q_38 => ?_)
    refine z_calli (z_runV (As := []) (rest := []) C mX12_220 (kX12_crew N h a0) q_38 (Nat.le_of_ble_eq_true rfl) ⟨Nat.zero_le _, Nat.zero_le _⟩ dX12_told_121 rfl rfl (Nat.le_of_ble_eq_true rfl)) rfl (fun v_37 h_36 => ?_)
    exact z_ireturn C ⟨rfl, rfl⟩ dX12_told_124
  refine z_ite (fun q_39 => ?_) (fun q_39 => ?_)
  · subst q_39
    refine z_table C 125 dX12_told_1 (by decide) (by decide) rfl rfl ?_
    refine z_aload_n C 0 dX12_told_125 rfl ?_
    refine z_bind (fun _ q_42 => ?_)
    refine z_calli (z_runV (As := []) (rest := []) C mX12_223 (kX12_isSafe N h a0) q_42 (Nat.le_of_ble_eq_true rfl) ⟨Nat.zero_le _, Nat.zero_le _⟩ dX12_told_126 rfl rfl (Nat.le_of_ble_eq_true rfl)) rfl (fun v_41 h_40 => ?_)
    exact z_ireturn C ⟨rfl, rfl⟩ dX12_told_129
  refine z_ite (fun q_43 => ?_) (fun q_43 => ?_)
  · subst q_43
    refine z_table C 130 dX12_told_1 (by decide) (by decide) rfl rfl ?_
    refine z_aload_n C 0 dX12_told_130 rfl ?_
    refine z_bind (fun _ q_46 => ?_)
    refine z_calli (z_runV (As := []) (rest := []) C mX12_226 (kX12_outs N h a0) q_46 (Nat.le_of_ble_eq_true rfl) ⟨Nat.zero_le _, Nat.zero_le _⟩ dX12_told_131 rfl rfl (Nat.le_of_ble_eq_true rfl)) rfl (fun v_45 h_44 => ?_)
    exact z_ireturn C ⟨rfl, rfl⟩ dX12_told_134
  refine z_tableO C 135 dX12_told_1 (by have eq_1 := lv_neT (a := 0) q_1 rfl; have eq_4 := lv_neT (a := 1) q_4 rfl; have eq_8 := lv_neT (a := 2) q_8 rfl; have eq_12 := lv_neT (a := 3) q_12 rfl; have eq_16 := lv_neT (a := 4) q_16 rfl; have eq_20 := lv_neT (a := 5) q_20 rfl; have eq_24 := lv_neT (a := 6) q_24 rfl; have eq_31 := lv_neT (a := 7) q_31 rfl; have eq_35 := lv_neT (a := 8) q_35 rfl; have eq_39 := lv_neT (a := 9) q_39 rfl; have eq_43 := lv_neT (a := 10) q_43 rfl; omega) rfl ?_
  refine z_iconst (v := (-1 : Int32)) C dX12_told_135 rfl ?_
  exact z_ireturn C ⟨rfl, rfl⟩ dX12_told_136
def bX12_pass_33 (N : Nat) (r33 : AH → Nat → Int32 → Int32 → Option (Int32 × AH)) (h : AH) (a0 : Nat) (x1 : Int32) (x2 : Int32) : Option (Int32 × AH) :=
  (if x1 ≤ x2 then
  (zgR h a0 12 0).bind fun a_1 =>
  (zald 0 h a_1 (79 : Int32)).bind fun v_2 =>
  some (v_2, h)
  else
  (zis h a0 12).bind fun _ =>
  zcall (fX12_night N h a0) fun _ h_3 =>
  r33 h_3 a0 x1 (x2 + (1 : Int32)))
theorem tX12_pass_33 {X : zX} {g : zG} (C : zC X g yX12_pass cX12_pass 3 32 0 0 (some .int)) (N : Nat) (n : Nat) : ∀ (h : AH) (a0 : Nat) (x1 : Int32) (x2 : Int32), ZZ X g 3 (0, 0, 0, 0) (fun v : Int32 => some (.int v)) (zfix (fun _ _ _ _ => none) (bX12_pass_33 N) n h a0 x1 x2) h 33 [(0, .ref a0), (1, .int x1), (2, .int x2)] [] := by
  induction n with
  | zero => intro h a0 x1 x2; exact z_none
  | succ n hr33 =>
    intro h a0 x1 x2
    show ZZ X g 3 (0, 0, 0, 0) _ (bX12_pass_33 N (zfix (fun _ _ _ _ => none) (bX12_pass_33 N) n) h a0 x1 x2) h 33 _ _
    unfold bX12_pass_33
    refine z_iload_n C 2 dX12_pass_33 rfl ?_
    refine z_iload_n C 1 dX12_pass_34 rfl ?_
    refine z_icmpge C 48 dX12_pass_35 rfl ?_ ?_
    · refine z_aload_n C 0 dX12_pass_48 rfl ?_
      refine z_getR C qX12_9 dX12_pass_49 (fun a_1 => ?_)
      refine z_bipush (v := (79 : Int32)) C dX12_pass_52 rfl ?_
      refine z_iaload C dX12_pass_54 (fun v_2 => ?_)
      exact z_ireturn C ⟨rfl, rfl⟩ dX12_pass_55
    · refine z_aload_n C 0 dX12_pass_38 rfl ?_
      refine z_bind (fun _ q_4 => ?_)
      refine z_callv (z_runV (As := []) (rest := []) C mX12_195 (kX12_night N h a0) q_4 (Nat.le_of_ble_eq_true rfl) ⟨Nat.zero_le _, Nat.zero_le _⟩ dX12_pass_39 rfl rfl (Nat.le_of_ble_eq_true rfl)) rfl (fun _ h_3 => ?_)
      refine z_iinc (v := x2 + (1 : Int32)) C 2 dX12_pass_42 [(2, .int (x2 + (1 : Int32))), (0, .ref a0), (1, .int x1)] rfl rfl (by decide) rfl ?_
      refine z_goto C 33 dX12_pass_45 rfl ?_
      exact z_lv _ [1, 2, 0] rfl (hr33 _ a0 x1 (x2 + (1 : Int32)))
def fX12_pass (N : Nat) (h : AH) (a0 : Nat) (x1 : Int32) : Option (Int32 × AH) :=
  zcall (fX12_isIn N h x1 (0 : Int32) (60 : Int32)) fun v_2 h_1 =>
  (if v_2 = (0) then
  some ((-2 : Int32), h_1)
  else
  (zgR h_1 a0 12 0).bind fun a_3 =>
  (zald 0 h_1 a_3 (79 : Int32)).bind fun v_4 =>
  (if (v_4 + x1) ≤ (9999 : Int32) then
  zfix (fun _ _ _ _ => none) (bX12_pass_33 N) N h_1 a0 x1 (0 : Int32)
  else
  some ((-3 : Int32), h_1)))
theorem kX12_pass {l : Launch} {g : zG} (N : Nat) (h : AH) (a0 : Nat) (x1 : Int32) : zM l g yX12_pass cX12_pass 3 (some .int) (32) 0 0 (fun v : Int32 => some (.int v)) (fX12_pass N h a0 x1) h [.ref a0, .int x1] := by
  refine zM.of (lv0 := [(0, .ref a0), (1, .int x1)]) (by decide) (Nat.le_of_ble_eq_true rfl) rfl (fun X hX C => ?_)
  subst hX
  unfold fX12_pass
  refine z_iload_n C 1 dX12_pass_0 rfl ?_
  refine z_iconst (v := (0 : Int32)) C dX12_pass_1 rfl ?_
  refine z_bipush (v := (60 : Int32)) C dX12_pass_2 rfl ?_
  refine z_calli (z_runS (As := [.int x1, .int (0 : Int32), .int (60 : Int32)]) (rest := []) C mX12_76 (kX12_isIn N h x1 (0 : Int32) (60 : Int32)) (Nat.le_of_ble_eq_true rfl) ⟨Nat.zero_le _, Nat.zero_le _⟩ dX12_pass_4 rfl rfl (Nat.le_of_ble_eq_true rfl)) rfl (fun v_2 h_1 => ?_)
  refine z_ifne C 13 dX12_pass_7 rfl ?_ ?_
  · refine z_aload_n C 0 dX12_pass_13 rfl ?_
    refine z_getR C qX12_9 dX12_pass_14 (fun a_3 => ?_)
    refine z_bipush (v := (79 : Int32)) C dX12_pass_17 rfl ?_
    refine z_iaload C dX12_pass_19 (fun v_4 => ?_)
    refine z_iload_n C 1 dX12_pass_20 rfl ?_
    refine z_iadd C dX12_pass_21 ?_
    refine z_sipush (v := (9999 : Int32)) C dX12_pass_22 rfl ?_
    refine z_icmple C 31 dX12_pass_25 rfl ?_ ?_
    · refine z_iconst (v := (0 : Int32)) C dX12_pass_31 rfl ?_
      refine z_istore_n C dX12_pass_32 [(2, .int (0 : Int32)), (0, .ref a0), (1, .int x1)] (by decide) rfl ?_
      exact z_lv _ [1, 2, 0] rfl (tX12_pass_33 C N N _ a0 x1 (0 : Int32))
    · refine z_bipush (v := (-3 : Int32)) C dX12_pass_28 rfl ?_
      exact z_ireturn C ⟨rfl, rfl⟩ dX12_pass_30
  · refine z_bipush (v := (-2 : Int32)) C dX12_pass_10 rfl ?_
    exact z_ireturn C ⟨rfl, rfl⟩ dX12_pass_12
def fX12_tells (N : Nat) (h : AH) (a0 : Nat) (x1 : Int32) : Option (Int32 × AH) :=
  (if x1 = (0) then
  (zis h a0 12).bind fun _ =>
  zcall (fX12_done N h a0) fun v_8 h_7 =>
  some (v_8, h_7)
  else
  (if x1 = (1 : Int32) then
  (zis h a0 12).bind fun _ =>
  zcall (fX12_known N h a0) fun v_5 h_4 =>
  some (v_5, h_4)
  else
  (zis h a0 12).bind fun _ =>
  zcall (fX12_mindOf N h a0 (x1 - (10 : Int32))) fun v_2 h_1 =>
  some (v_2, h_1)))
theorem kX12_tells {l : Launch} {g : zG} (N : Nat) (h : AH) (a0 : Nat) (x1 : Int32) : zM l g yX12_tells cX12_tells 2 (some .int) (3) 0 0 (fun v : Int32 => some (.int v)) (fX12_tells N h a0 x1) h [.ref a0, .int x1] := by
  refine zM.of (lv0 := [(0, .ref a0), (1, .int x1)]) (by decide) (Nat.le_of_ble_eq_true rfl) rfl (fun X hX C => ?_)
  subst hX
  unfold fX12_tells
  refine z_iload_n C 1 dX12_tells_0 rfl ?_
  refine z_ifne C 11 dX12_tells_1 rfl ?_ ?_
  · refine z_iload_n C 1 dX12_tells_11 rfl ?_
    refine z_iconst (v := (1 : Int32)) C dX12_tells_12 rfl ?_
    refine z_icmpne C 23 dX12_tells_13 rfl ?_ ?_
    · refine z_aload_n C 0 dX12_tells_23 rfl ?_
      refine z_iload_n C 1 dX12_tells_24 rfl ?_
      refine z_bipush (v := (10 : Int32)) C dX12_tells_25 rfl ?_
      refine z_isub C dX12_tells_27 ?_
      refine z_bind (fun _ q_3 => ?_)
      refine z_calli (z_runV (As := [.int (x1 - (10 : Int32))]) (rest := []) C mX12_99 (kX12_mindOf N h a0 (x1 - (10 : Int32))) q_3 (Nat.le_of_ble_eq_true rfl) ⟨Nat.zero_le _, Nat.zero_le _⟩ dX12_tells_28 rfl rfl (Nat.le_of_ble_eq_true rfl)) rfl (fun v_2 h_1 => ?_)
      exact z_ireturn C ⟨rfl, rfl⟩ dX12_tells_31
    · refine z_aload_n C 0 dX12_tells_16 rfl ?_
      refine z_bind (fun _ q_6 => ?_)
      refine z_calli (z_runV (As := []) (rest := []) C mX12_229 (kX12_known N h a0) q_6 (Nat.le_of_ble_eq_true rfl) ⟨Nat.zero_le _, Nat.zero_le _⟩ dX12_tells_17 rfl rfl (Nat.le_of_ble_eq_true rfl)) rfl (fun v_5 h_4 => ?_)
      refine z_goto C 31 dX12_tells_20 rfl ?_
      exact z_ireturn C ⟨rfl, rfl⟩ dX12_tells_31
  · refine z_aload_n C 0 dX12_tells_4 rfl ?_
    refine z_bind (fun _ q_9 => ?_)
    refine z_calli (z_runV (As := []) (rest := []) C mX12_210 (kX12_done N h a0) q_9 (Nat.le_of_ble_eq_true rfl) ⟨Nat.zero_le _, Nat.zero_le _⟩ dX12_tells_5 rfl rfl (Nat.le_of_ble_eq_true rfl)) rfl (fun v_8 h_7 => ?_)
    refine z_goto C 31 dX12_tells_8 rfl ?_
    exact z_ireturn C ⟨rfl, rfl⟩ dX12_tells_31
def bX12_on_48 (N : Nat) (r48 : AH → Nat → Int32 → Int32 → Int32 → Option (Int32 × AH)) (h : AH) (a0 : Nat) (x1 : Int32) (x2 : Int32) (x3 : Int32) : Option (Int32 × AH) :=
  (if x1 ≤ x3 then
  (zis h a0 12).bind fun _ =>
  zcall (fX12_tells N h a0 x2) fun v_2 h_1 =>
  (zgR h_1 a0 12 1).bind fun a_4 =>
  (zgR h_1 a0 12 0).bind fun a_5 =>
  zcall (fX12_move N h_1 a_4 a_5) fun _ h_6 =>
  some (v_2, h_6)
  else
  (zis h a0 12).bind fun _ =>
  zcall (fX12_night N h a0) fun _ h_7 =>
  r48 h_7 a0 x1 x2 (x3 + (1 : Int32)))
theorem tX12_on_48 {X : zX} {g : zG} (C : zC X g yX12_on cX12_on 4 32 0 0 (some .int)) (N : Nat) (n : Nat) : ∀ (h : AH) (a0 : Nat) (x1 : Int32) (x2 : Int32) (x3 : Int32), ZZ X g 4 (0, 0, 0, 0) (fun v : Int32 => some (.int v)) (zfix (fun _ _ _ _ _ => none) (bX12_on_48 N) n h a0 x1 x2 x3) h 48 [(0, .ref a0), (1, .int x1), (2, .int x2), (3, .int x3)] [] := by
  induction n with
  | zero => intro h a0 x1 x2 x3; exact z_none
  | succ n hr48 =>
    intro h a0 x1 x2 x3
    show ZZ X g 4 (0, 0, 0, 0) _ (bX12_on_48 N (zfix (fun _ _ _ _ _ => none) (bX12_on_48 N) n) h a0 x1 x2 x3) h 48 _ _
    unfold bX12_on_48
    refine z_iload_n C 3 dX12_on_48 rfl ?_
    refine z_iload_n C 1 dX12_on_49 rfl ?_
    refine z_icmpge C 63 dX12_on_50 rfl ?_ ?_
    · refine z_aload_n C 0 dX12_on_63 rfl ?_
      refine z_iload_n C 2 dX12_on_64 rfl ?_
      refine z_bind (fun _ q_3 => ?_)
      refine z_calli (z_runV (As := [.int x2]) (rest := []) C mX12_232 (kX12_tells N h a0 x2) q_3 (Nat.le_of_ble_eq_true rfl) ⟨Nat.zero_le _, Nat.zero_le _⟩ dX12_on_65 rfl rfl (Nat.le_of_ble_eq_true rfl)) rfl (fun v_2 h_1 => ?_)
      refine z_istore_n C dX12_on_68 [(3, .int v_2), (0, .ref a0), (1, .int x1), (2, .int x2)] (by decide) rfl ?_
      refine z_aload_n C 1 dX12_on_69 rfl ?_
      refine z_getR C qX12_15 dX12_on_70 (fun a_4 => ?_)
      refine z_aload_n C 1 dX12_on_73 rfl ?_
      refine z_getR C qX12_9 dX12_on_74 (fun a_5 => ?_)
      refine z_callv (z_runS (As := [.ref a_4, .ref a_5]) (rest := []) C mX12_72 (kX12_move N h_1 a_4 a_5) (Nat.le_of_ble_eq_true rfl) ⟨Nat.zero_le _, Nat.zero_le _⟩ dX12_on_77 rfl rfl (Nat.le_of_ble_eq_true rfl)) rfl (fun _ h_6 => ?_)
      refine z_iload_n C 0 dX12_on_80 rfl ?_
      exact z_ireturn C ⟨rfl, rfl⟩ dX12_on_81
    · refine z_aload_n C 0 dX12_on_53 rfl ?_
      refine z_bind (fun _ q_8 => ?_)
      refine z_callv (z_runV (As := []) (rest := []) C mX12_195 (kX12_night N h a0) q_8 (Nat.le_of_ble_eq_true rfl) ⟨Nat.zero_le _, Nat.zero_le _⟩ dX12_on_54 rfl rfl (Nat.le_of_ble_eq_true rfl)) rfl (fun _ h_7 => ?_)
      refine z_iinc (v := x3 + (1 : Int32)) C 3 dX12_on_57 [(3, .int (x3 + (1 : Int32))), (0, .ref a0), (1, .int x1), (2, .int x2)] rfl rfl (by decide) rfl ?_
      refine z_goto C 48 dX12_on_60 rfl ?_
      exact z_lv _ [1, 2, 3, 0] rfl (hr48 _ a0 x1 x2 (x3 + (1 : Int32)))
def bX12_on_22 (N : Nat) (h : AH) (a0 : Nat) (x1 : Int32) (x2 : Int32) : Option (Int32 × AH) :=
  zcall (fX12_isIn N h x1 (0 : Int32) (60 : Int32)) fun v_2 h_1 =>
  (if v_2 = (0) then
  some ((-2 : Int32), h_1)
  else
  (zgR h_1 a0 12 0).bind fun a_3 =>
  (zgR h_1 a0 12 1).bind fun a_4 =>
  zcall (fX12_move N h_1 a_3 a_4) fun _ h_5 =>
  zfix (fun _ _ _ _ _ => none) (bX12_on_48 N) N h_5 a0 x1 x2 (0 : Int32))
theorem tX12_on_22 {X : zX} {g : zG} (C : zC X g yX12_on cX12_on 4 32 0 0 (some .int)) (N : Nat) (h : AH) (a0 : Nat) (x1 : Int32) (x2 : Int32) : ZZ X g 4 (0, 0, 0, 0) (fun v : Int32 => some (.int v)) (bX12_on_22 N h a0 x1 x2) h 22 [(0, .ref a0), (1, .int x1), (2, .int x2)] [] := by
  unfold bX12_on_22
  refine z_iload_n C 1 dX12_on_22 rfl ?_
  refine z_iconst (v := (0 : Int32)) C dX12_on_23 rfl ?_
  refine z_bipush (v := (60 : Int32)) C dX12_on_24 rfl ?_
  refine z_calli (z_runS (As := [.int x1, .int (0 : Int32), .int (60 : Int32)]) (rest := []) C mX12_76 (kX12_isIn N h x1 (0 : Int32) (60 : Int32)) (Nat.le_of_ble_eq_true rfl) ⟨Nat.zero_le _, Nat.zero_le _⟩ dX12_on_26 rfl rfl (Nat.le_of_ble_eq_true rfl)) rfl (fun v_2 h_1 => ?_)
  refine z_ifne C 35 dX12_on_29 rfl ?_ ?_
  · refine z_aload_n C 0 dX12_on_35 rfl ?_
    refine z_getR C qX12_9 dX12_on_36 (fun a_3 => ?_)
    refine z_aload_n C 0 dX12_on_39 rfl ?_
    refine z_getR C qX12_15 dX12_on_40 (fun a_4 => ?_)
    refine z_callv (z_runS (As := [.ref a_3, .ref a_4]) (rest := []) C mX12_72 (kX12_move N h_1 a_3 a_4) (Nat.le_of_ble_eq_true rfl) ⟨Nat.zero_le _, Nat.zero_le _⟩ dX12_on_43 rfl rfl (Nat.le_of_ble_eq_true rfl)) rfl (fun _ h_5 => ?_)
    refine z_iconst (v := (0 : Int32)) C dX12_on_46 rfl ?_
    refine z_istore_n C dX12_on_47 [(3, .int (0 : Int32)), (0, .ref a0), (1, .int x1), (2, .int x2)] (by decide) rfl ?_
    exact z_lv _ [1, 2, 3, 0] rfl (tX12_on_48 C N N _ a0 x1 x2 (0 : Int32))
  · refine z_bipush (v := (-2 : Int32)) C dX12_on_32 rfl ?_
    exact z_ireturn C ⟨rfl, rfl⟩ dX12_on_34
def fX12_on (N : Nat) (h : AH) (a0 : Nat) (x1 : Int32) (x2 : Int32) : Option (Int32 × AH) :=
  zcall (fX12_isIn N h x2 (0 : Int32) (1 : Int32)) fun v_2 h_1 =>
  (if v_2 = (0) then
  (zis h_1 a0 12).bind fun _ =>
  zcall (fX12_isMaster N h_1 a0 (x2 - (10 : Int32))) fun v_4 h_3 =>
  (if v_4 = (0) then
  some ((-1 : Int32), h_3)
  else
  bX12_on_22 N h_3 a0 x1 x2)
  else
  bX12_on_22 N h_1 a0 x1 x2)
theorem kX12_on {l : Launch} {g : zG} (N : Nat) (h : AH) (a0 : Nat) (x1 : Int32) (x2 : Int32) : zM l g yX12_on cX12_on 4 (some .int) (32) 0 0 (fun v : Int32 => some (.int v)) (fX12_on N h a0 x1 x2) h [.ref a0, .int x1, .int x2] := by
  refine zM.of (lv0 := [(0, .ref a0), (1, .int x1), (2, .int x2)]) (by decide) (Nat.le_of_ble_eq_true rfl) rfl (fun X hX C => ?_)
  subst hX
  unfold fX12_on
  refine z_iload_n C 2 dX12_on_0 rfl ?_
  refine z_iconst (v := (0 : Int32)) C dX12_on_1 rfl ?_
  refine z_iconst (v := (1 : Int32)) C dX12_on_2 rfl ?_
  refine z_calli (z_runS (As := [.int x2, .int (0 : Int32), .int (1 : Int32)]) (rest := []) C mX12_76 (kX12_isIn N h x2 (0 : Int32) (1 : Int32)) (Nat.le_of_ble_eq_true rfl) ⟨Nat.zero_le _, Nat.zero_le _⟩ dX12_on_3 rfl rfl (Nat.le_of_ble_eq_true rfl)) rfl (fun v_2 h_1 => ?_)
  refine z_ifne C 22 dX12_on_6 rfl ?_ ?_
  · exact z_lv _ [0, 1, 2] rfl (tX12_on_22 C N _ a0 x1 x2)
  · refine z_aload_n C 0 dX12_on_9 rfl ?_
    refine z_iload_n C 2 dX12_on_10 rfl ?_
    refine z_bipush (v := (10 : Int32)) C dX12_on_11 rfl ?_
    refine z_isub C dX12_on_13 ?_
    refine z_bind (fun _ q_5 => ?_)
    refine z_calli (z_runV (As := [.int (x2 - (10 : Int32))]) (rest := []) C mX12_80 (kX12_isMaster N h_1 a0 (x2 - (10 : Int32))) q_5 (Nat.le_of_ble_eq_true rfl) ⟨Nat.zero_le _, Nat.zero_le _⟩ dX12_on_14 rfl rfl (Nat.le_of_ble_eq_true rfl)) rfl (fun v_4 h_3 => ?_)
    refine z_ifne C 22 dX12_on_17 rfl ?_ ?_
    · exact z_lv _ [0, 1, 2] rfl (tX12_on_22 C N _ a0 x1 x2)
    · refine z_iconst (v := (-1 : Int32)) C dX12_on_20 rfl ?_
      exact z_ireturn C ⟨rfl, rfl⟩ dX12_on_21
def bX12_see_119 (N : Nat) (h : AH) (a0 : Nat) (s0 : Nat) (s1 : Int32) (s2 : Int32) : Option (Int32 × AH) :=
  (zast 0 h s0 s1 s2).bind fun h_1 =>
  (zgR h_1 a0 12 0).bind fun a_2 =>
  (zald 0 h_1 a_2 (81 : Int32)).bind fun v_3 =>
  (zast 0 h_1 a_2 (81 : Int32) (v_3 + (1 : Int32))).bind fun h_4 =>
  (zgR h_4 a0 12 0).bind fun a_5 =>
  (zald 0 h_4 a_5 (81 : Int32)).bind fun v_6 =>
  some (v_6, h_4)
theorem tX12_see_119 {X : zX} {g : zG} (C : zC X g yX12_see cX12_see 6 3 0 0 (some .int)) (N : Nat) (h : AH) (a0 : Nat) (s0 : Nat) (s1 : Int32) (s2 : Int32) : ZZ X g 6 (0, 0, 0, 0) (fun v : Int32 => some (.int v)) (bX12_see_119 N h a0 s0 s1 s2) h 119 [(0, .ref a0)] [.int s2, .int s1, .ref s0] := by
  unfold bX12_see_119
  refine z_iastore C dX12_see_119 (fun h_1 => ?_)
  refine z_aload_n C 0 dX12_see_120 rfl ?_
  refine z_getR C qX12_9 dX12_see_121 (fun a_2 => ?_)
  refine z_bipush (v := (81 : Int32)) C dX12_see_124 rfl ?_
  refine z_dup2 C dX12_see_126 rfl rfl ?_
  refine z_iaload C dX12_see_127 (fun v_3 => ?_)
  refine z_iconst (v := (1 : Int32)) C dX12_see_128 rfl ?_
  refine z_iadd C dX12_see_129 ?_
  refine z_iastore C dX12_see_130 (fun h_4 => ?_)
  refine z_aload_n C 0 dX12_see_131 rfl ?_
  refine z_getR C qX12_9 dX12_see_132 (fun a_5 => ?_)
  refine z_bipush (v := (81 : Int32)) C dX12_see_135 rfl ?_
  refine z_iaload C dX12_see_137 (fun v_6 => ?_)
  exact z_ireturn C ⟨rfl, rfl⟩ dX12_see_138
def fX12_see (N : Nat) (h : AH) (a0 : Nat) (x1 : Int32) (x2 : Int32) (x3 : Int32) (x4 : Int32) : Option (Int32 × AH) :=
  (if x1 = (-1 : Int32) then
  (zgR h a0 12 0).bind fun a_20 =>
  (zast 0 h a_20 (81 : Int32) (0 : Int32)).bind fun h_21 =>
  some ((0 : Int32), h_21)
  else
  (zis h a0 12).bind fun _ =>
  zcall (fX12_isMaster N h a0 x1) fun v_2 h_1 =>
  (if v_2 = (0) then
  some ((-1 : Int32), h_1)
  else
  zcall (fX12_isFact N h_1 x2) fun v_5 h_4 =>
  (if v_5 = (0) then
  some ((-1 : Int32), h_4)
  else
  zcall (fX12_isIn N h_4 x3 (0 : Int32) (20 : Int32)) fun v_7 h_6 =>
  (if v_7 = (0) then
  some ((-2 : Int32), h_6)
  else
  (zgR h_6 a0 12 0).bind fun a_8 =>
  (zald 0 h_6 a_8 (81 : Int32)).bind fun v_9 =>
  (if v_9 = (5 : Int32) then
  some ((-4 : Int32), h_6)
  else
  (zgR h_6 a0 12 0).bind fun a_10 =>
  (zald 0 h_6 a_10 (81 : Int32)).bind fun v_11 =>
  znm ((82 : Int32) + ((4 : Int32) * v_11)) fun y_12 =>
  (zgR h_6 a0 12 0).bind fun a_13 =>
  (zast 0 h_6 a_13 y_12 x1).bind fun h_14 =>
  (zgR h_14 a0 12 0).bind fun a_15 =>
  (zast 0 h_14 a_15 (y_12 + (1 : Int32)) x2).bind fun h_16 =>
  (zgR h_16 a0 12 0).bind fun a_17 =>
  (zast 0 h_16 a_17 (y_12 + (2 : Int32)) x3).bind fun h_18 =>
  (zgR h_18 a0 12 0).bind fun a_19 =>
  (if x4 = (0) then
  bX12_see_119 N h_18 a0 a_19 (y_12 + (3 : Int32)) (0 : Int32)
  else
  bX12_see_119 N h_18 a0 a_19 (y_12 + (3 : Int32)) (1 : Int32)))))))
theorem kX12_see {l : Launch} {g : zG} (N : Nat) (h : AH) (a0 : Nat) (x1 : Int32) (x2 : Int32) (x3 : Int32) (x4 : Int32) : zM l g yX12_see cX12_see 6 (some .int) (3) 0 0 (fun v : Int32 => some (.int v)) (fX12_see N h a0 x1 x2 x3 x4) h [.ref a0, .int x1, .int x2, .int x3, .int x4] := by
  refine zM.of (lv0 := [(0, .ref a0), (1, .int x1), (2, .int x2), (3, .int x3), (4, .int x4)]) (by decide) (Nat.le_of_ble_eq_true rfl) rfl (fun X hX C => ?_)
  subst hX
  unfold fX12_see
  refine z_iload_n C 1 dX12_see_0 rfl ?_
  refine z_iconst (v := (-1 : Int32)) C dX12_see_1 rfl ?_
  refine z_icmpne C 15 dX12_see_2 rfl ?_ ?_
  · refine z_aload_n C 0 dX12_see_15 rfl ?_
    refine z_iload_n C 1 dX12_see_16 rfl ?_
    refine z_bind (fun _ q_3 => ?_)
    refine z_calli (z_runV (As := [.int x1]) (rest := []) C mX12_80 (kX12_isMaster N h a0 x1) q_3 (Nat.le_of_ble_eq_true rfl) ⟨Nat.zero_le _, Nat.zero_le _⟩ dX12_see_17 rfl rfl (Nat.le_of_ble_eq_true rfl)) rfl (fun v_2 h_1 => ?_)
    refine z_ifeq C 30 dX12_see_20 rfl ?_ ?_
    · refine z_iconst (v := (-1 : Int32)) C dX12_see_30 rfl ?_
      exact z_ireturn C ⟨rfl, rfl⟩ dX12_see_31
    · refine z_iload_n C 2 dX12_see_23 rfl ?_
      refine z_calli (z_runS (As := [.int x2]) (rest := []) C mX12_92 (kX12_isFact N h_1 x2) (Nat.le_of_ble_eq_true rfl) ⟨Nat.zero_le _, Nat.zero_le _⟩ dX12_see_24 rfl rfl (Nat.le_of_ble_eq_true rfl)) rfl (fun v_5 h_4 => ?_)
      refine z_ifne C 32 dX12_see_27 rfl ?_ ?_
      · refine z_iload_n C 3 dX12_see_32 rfl ?_
        refine z_iconst (v := (0 : Int32)) C dX12_see_33 rfl ?_
        refine z_bipush (v := (20 : Int32)) C dX12_see_34 rfl ?_
        refine z_calli (z_runS (As := [.int x3, .int (0 : Int32), .int (20 : Int32)]) (rest := []) C mX12_76 (kX12_isIn N h_4 x3 (0 : Int32) (20 : Int32)) (Nat.le_of_ble_eq_true rfl) ⟨Nat.zero_le _, Nat.zero_le _⟩ dX12_see_36 rfl rfl (Nat.le_of_ble_eq_true rfl)) rfl (fun v_7 h_6 => ?_)
        refine z_ifne C 45 dX12_see_39 rfl ?_ ?_
        · refine z_aload_n C 0 dX12_see_45 rfl ?_
          refine z_getR C qX12_9 dX12_see_46 (fun a_8 => ?_)
          refine z_bipush (v := (81 : Int32)) C dX12_see_49 rfl ?_
          refine z_iaload C dX12_see_51 (fun v_9 => ?_)
          refine z_iconst (v := (5 : Int32)) C dX12_see_52 rfl ?_
          refine z_icmpne C 59 dX12_see_53 rfl ?_ ?_
          · refine z_bipush (v := (82 : Int32)) C dX12_see_59 rfl ?_
            refine z_iconst (v := (4 : Int32)) C dX12_see_61 rfl ?_
            refine z_aload_n C 0 dX12_see_62 rfl ?_
            refine z_getR C qX12_9 dX12_see_63 (fun a_10 => ?_)
            refine z_bipush (v := (81 : Int32)) C dX12_see_66 rfl ?_
            refine z_iaload C dX12_see_68 (fun v_11 => ?_)
            refine z_imul C dX12_see_69 ?_
            refine z_iadd C dX12_see_70 ?_
            refine z_nmI (fun y_12 => ?_)
            refine z_istore C dX12_see_71 [(5, .int y_12), (0, .ref a0), (1, .int x1), (2, .int x2), (3, .int x3), (4, .int x4)] (by decide) rfl ?_
            refine z_aload_n C 1 dX12_see_73 rfl ?_
            refine z_getR C qX12_9 dX12_see_74 (fun a_13 => ?_)
            refine z_iload C 0 dX12_see_77 rfl ?_
            refine z_iload_n C 2 dX12_see_79 rfl ?_
            refine z_iastore C dX12_see_80 (fun h_14 => ?_)
            refine z_aload_n C 1 dX12_see_81 rfl ?_
            refine z_getR C qX12_9 dX12_see_82 (fun a_15 => ?_)
            refine z_iload C 0 dX12_see_85 rfl ?_
            refine z_iconst (v := (1 : Int32)) C dX12_see_87 rfl ?_
            refine z_iadd C dX12_see_88 ?_
            refine z_iload_n C 3 dX12_see_89 rfl ?_
            refine z_iastore C dX12_see_90 (fun h_16 => ?_)
            refine z_aload_n C 1 dX12_see_91 rfl ?_
            refine z_getR C qX12_9 dX12_see_92 (fun a_17 => ?_)
            refine z_iload C 0 dX12_see_95 rfl ?_
            refine z_iconst (v := (2 : Int32)) C dX12_see_97 rfl ?_
            refine z_iadd C dX12_see_98 ?_
            refine z_iload_n C 4 dX12_see_99 rfl ?_
            refine z_iastore C dX12_see_100 (fun h_18 => ?_)
            refine z_aload_n C 1 dX12_see_101 rfl ?_
            refine z_getR C qX12_9 dX12_see_102 (fun a_19 => ?_)
            refine z_iload C 0 dX12_see_105 rfl ?_
            refine z_iconst (v := (3 : Int32)) C dX12_see_107 rfl ?_
            refine z_iadd C dX12_see_108 ?_
            refine z_iload C 5 dX12_see_109 rfl ?_
            refine z_ifeq C 118 dX12_see_111 rfl ?_ ?_
            · refine z_iconst (v := (0 : Int32)) C dX12_see_118 rfl ?_
              exact z_lv _ [1] rfl (tX12_see_119 C N _ a0 a_19 (y_12 + (3 : Int32)) (0 : Int32))
            · refine z_iconst (v := (1 : Int32)) C dX12_see_114 rfl ?_
              refine z_goto C 119 dX12_see_115 rfl ?_
              exact z_lv _ [1] rfl (tX12_see_119 C N _ a0 a_19 (y_12 + (3 : Int32)) (1 : Int32))
          · refine z_bipush (v := (-4 : Int32)) C dX12_see_56 rfl ?_
            exact z_ireturn C ⟨rfl, rfl⟩ dX12_see_58
        · refine z_bipush (v := (-2 : Int32)) C dX12_see_42 rfl ?_
          exact z_ireturn C ⟨rfl, rfl⟩ dX12_see_44
      · refine z_iconst (v := (-1 : Int32)) C dX12_see_30 rfl ?_
        exact z_ireturn C ⟨rfl, rfl⟩ dX12_see_31
  · refine z_aload_n C 0 dX12_see_5 rfl ?_
    refine z_getR C qX12_9 dX12_see_6 (fun a_20 => ?_)
    refine z_bipush (v := (81 : Int32)) C dX12_see_9 rfl ?_
    refine z_iconst (v := (0 : Int32)) C dX12_see_11 rfl ?_
    refine z_iastore C dX12_see_12 (fun h_21 => ?_)
    refine z_iconst (v := (0 : Int32)) C dX12_see_13 rfl ?_
    exact z_ireturn C ⟨rfl, rfl⟩ dX12_see_14
def fX12_isSo (N : Nat) (h : AH) (a0 : Nat) (x1 : Int32) : Option (Int32 × AH) :=
  znm ((82 : Int32) + ((4 : Int32) * x1)) fun y_1 =>
  (zgR h a0 12 0).bind fun a_2 =>
  (zald 0 h a_2 y_1).bind fun v_3 =>
  (zgR h a0 12 0).bind fun a_4 =>
  (zald 0 h a_4 (y_1 + (1 : Int32))).bind fun v_5 =>
  (zgR h a0 12 0).bind fun a_6 =>
  (zald 0 h a_6 (79 : Int32)).bind fun v_7 =>
  (zgR h a0 12 0).bind fun a_8 =>
  (zald 0 h a_8 (y_1 + (2 : Int32))).bind fun v_9 =>
  (zis h a0 12).bind fun _ =>
  zcall (fX12_keeps N h a0 v_3 v_5 (v_7 + v_9)) fun v_11 h_10 =>
  (zgR h_10 a0 12 0).bind fun a_13 =>
  (zald 0 h_10 a_13 (y_1 + (3 : Int32))).bind fun v_14 =>
  (if v_14 = (1 : Int32) then
  (if v_11 = (1 : Int32) then
  zret .boolean (1 : Int32) h_10
  else
  zret .boolean (0 : Int32) h_10)
  else
  (if v_11 = (0 : Int32) then
  zret .boolean (1 : Int32) h_10
  else
  zret .boolean (0 : Int32) h_10))
theorem kX12_isSo {l : Launch} {g : zG} (N : Nat) (h : AH) (a0 : Nat) (x1 : Int32) : zM l g yX12_isSo cX12_isSo 3 (some .boolean) (30) 0 0 (fun v : Int32 => some (.int v)) (fX12_isSo N h a0 x1) h [.ref a0, .int x1] := by
  refine zM.of (lv0 := [(0, .ref a0), (1, .int x1)]) (by decide) (Nat.le_of_ble_eq_true rfl) rfl (fun X hX C => ?_)
  subst hX
  unfold fX12_isSo
  refine z_bipush (v := (82 : Int32)) C dX12_isSo_0 rfl ?_
  refine z_iconst (v := (4 : Int32)) C dX12_isSo_2 rfl ?_
  refine z_iload_n C 1 dX12_isSo_3 rfl ?_
  refine z_imul C dX12_isSo_4 ?_
  refine z_iadd C dX12_isSo_5 ?_
  refine z_nmI (fun y_1 => ?_)
  refine z_istore_n C dX12_isSo_6 [(2, .int y_1), (0, .ref a0), (1, .int x1)] (by decide) rfl ?_
  refine z_aload_n C 1 dX12_isSo_7 rfl ?_
  refine z_aload_n C 1 dX12_isSo_8 rfl ?_
  refine z_getR C qX12_9 dX12_isSo_9 (fun a_2 => ?_)
  refine z_iload_n C 0 dX12_isSo_12 rfl ?_
  refine z_iaload C dX12_isSo_13 (fun v_3 => ?_)
  refine z_aload_n C 1 dX12_isSo_14 rfl ?_
  refine z_getR C qX12_9 dX12_isSo_15 (fun a_4 => ?_)
  refine z_iload_n C 0 dX12_isSo_18 rfl ?_
  refine z_iconst (v := (1 : Int32)) C dX12_isSo_19 rfl ?_
  refine z_iadd C dX12_isSo_20 ?_
  refine z_iaload C dX12_isSo_21 (fun v_5 => ?_)
  refine z_aload_n C 1 dX12_isSo_22 rfl ?_
  refine z_getR C qX12_9 dX12_isSo_23 (fun a_6 => ?_)
  refine z_bipush (v := (79 : Int32)) C dX12_isSo_26 rfl ?_
  refine z_iaload C dX12_isSo_28 (fun v_7 => ?_)
  refine z_aload_n C 1 dX12_isSo_29 rfl ?_
  refine z_getR C qX12_9 dX12_isSo_30 (fun a_8 => ?_)
  refine z_iload_n C 0 dX12_isSo_33 rfl ?_
  refine z_iconst (v := (2 : Int32)) C dX12_isSo_34 rfl ?_
  refine z_iadd C dX12_isSo_35 ?_
  refine z_iaload C dX12_isSo_36 (fun v_9 => ?_)
  refine z_iadd C dX12_isSo_37 ?_
  refine z_bind (fun _ q_12 => ?_)
  refine z_calli (z_runV (As := [.int v_3, .int v_5, .int (v_7 + v_9)]) (rest := []) C mX12_176 (kX12_keeps N h a0 v_3 v_5 (v_7 + v_9)) q_12 (Nat.le_of_ble_eq_true rfl) ⟨Nat.zero_le _, Nat.zero_le _⟩ dX12_isSo_38 rfl rfl (Nat.le_of_ble_eq_true rfl)) rfl (fun v_11 h_10 => ?_)
  refine z_aload_n C 1 dX12_isSo_41 rfl ?_
  refine z_getR C qX12_9 dX12_isSo_42 (fun a_13 => ?_)
  refine z_iload_n C 0 dX12_isSo_45 rfl ?_
  refine z_iconst (v := (3 : Int32)) C dX12_isSo_46 rfl ?_
  refine z_iadd C dX12_isSo_47 ?_
  refine z_iaload C dX12_isSo_48 (fun v_14 => ?_)
  refine z_iconst (v := (1 : Int32)) C dX12_isSo_49 rfl ?_
  refine z_icmpne C 57 dX12_isSo_50 rfl ?_ ?_
  · refine z_iconst (v := (0 : Int32)) C dX12_isSo_57 rfl ?_
    refine z_icmpne C 65 dX12_isSo_58 rfl ?_ ?_
    · refine z_iconst (v := (0 : Int32)) C dX12_isSo_65 rfl ?_
      exact z_zreturn C ⟨rfl, rfl⟩ dX12_isSo_66
    · refine z_iconst (v := (1 : Int32)) C dX12_isSo_61 rfl ?_
      refine z_goto C 66 dX12_isSo_62 rfl ?_
      exact z_zreturn C ⟨rfl, rfl⟩ dX12_isSo_66
  · refine z_iconst (v := (1 : Int32)) C dX12_isSo_53 rfl ?_
    refine z_goto C 58 dX12_isSo_54 rfl ?_
    refine z_icmpne C 65 dX12_isSo_58 rfl ?_ ?_
    · refine z_iconst (v := (0 : Int32)) C dX12_isSo_65 rfl ?_
      exact z_zreturn C ⟨rfl, rfl⟩ dX12_isSo_66
    · refine z_iconst (v := (1 : Int32)) C dX12_isSo_61 rfl ?_
      refine z_goto C 66 dX12_isSo_62 rfl ?_
      exact z_zreturn C ⟨rfl, rfl⟩ dX12_isSo_66
def bX12_wrong_2 (N : Nat) (r2 : AH → Nat → Int32 → Option (Int32 × AH)) (h : AH) (a0 : Nat) (x1 : Int32) : Option (Int32 × AH) :=
  (zgR h a0 12 0).bind fun a_1 =>
  (zald 0 h a_1 (81 : Int32)).bind fun v_2 =>
  (if v_2 ≤ x1 then
  some ((-5 : Int32), h)
  else
  (zis h a0 12).bind fun _ =>
  zcall (fX12_isSo N h a0 x1) fun v_4 h_3 =>
  (if v_4 = (0) then
  some (x1, h_3)
  else
  r2 h_3 a0 (x1 + (1 : Int32))))
theorem tX12_wrong_2 {X : zX} {g : zG} (C : zC X g yX12_wrong cX12_wrong 2 31 0 0 (some .int)) (N : Nat) (n : Nat) : ∀ (h : AH) (a0 : Nat) (x1 : Int32), ZZ X g 2 (0, 0, 0, 0) (fun v : Int32 => some (.int v)) (zfix (fun _ _ _ => none) (bX12_wrong_2 N) n h a0 x1) h 2 [(0, .ref a0), (1, .int x1)] [] := by
  induction n with
  | zero => intro h a0 x1; exact z_none
  | succ n hr2 =>
    intro h a0 x1
    show ZZ X g 2 (0, 0, 0, 0) _ (bX12_wrong_2 N (zfix (fun _ _ _ => none) (bX12_wrong_2 N) n) h a0 x1) h 2 _ _
    unfold bX12_wrong_2
    refine z_iload_n C 1 dX12_wrong_2 rfl ?_
    refine z_aload_n C 0 dX12_wrong_3 rfl ?_
    refine z_getR C qX12_9 dX12_wrong_4 (fun a_1 => ?_)
    refine z_bipush (v := (81 : Int32)) C dX12_wrong_7 rfl ?_
    refine z_iaload C dX12_wrong_9 (fun v_2 => ?_)
    refine z_icmpge C 29 dX12_wrong_10 rfl ?_ ?_
    · refine z_bipush (v := (-5 : Int32)) C dX12_wrong_29 rfl ?_
      exact z_ireturn C ⟨rfl, rfl⟩ dX12_wrong_31
    · refine z_aload_n C 0 dX12_wrong_13 rfl ?_
      refine z_iload_n C 1 dX12_wrong_14 rfl ?_
      refine z_bind (fun _ q_5 => ?_)
      refine z_calli (z_runV (As := [.int x1]) (rest := []) C mX12_235 (kX12_isSo N h a0 x1) q_5 (Nat.le_of_ble_eq_true rfl) ⟨Nat.zero_le _, Nat.zero_le _⟩ dX12_wrong_15 rfl rfl (Nat.le_of_ble_eq_true rfl)) rfl (fun v_4 h_3 => ?_)
      refine z_ifne C 23 dX12_wrong_18 rfl ?_ ?_
      · refine z_iinc (v := x1 + (1 : Int32)) C 1 dX12_wrong_23 [(1, .int (x1 + (1 : Int32))), (0, .ref a0)] rfl rfl (by decide) rfl ?_
        refine z_goto C 2 dX12_wrong_26 rfl ?_
        exact z_lv _ [1, 0] rfl (hr2 _ a0 (x1 + (1 : Int32)))
      · refine z_iload_n C 1 dX12_wrong_21 rfl ?_
        exact z_ireturn C ⟨rfl, rfl⟩ dX12_wrong_22
def fX12_wrong (N : Nat) (h : AH) (a0 : Nat) : Option (Int32 × AH) :=
  zfix (fun _ _ _ => none) (bX12_wrong_2 N) N h a0 (0 : Int32)
theorem kX12_wrong {l : Launch} {g : zG} (N : Nat) (h : AH) (a0 : Nat) : zM l g yX12_wrong cX12_wrong 2 (some .int) (31) 0 0 (fun v : Int32 => some (.int v)) (fX12_wrong N h a0) h [.ref a0] := by
  refine zM.of (lv0 := [(0, .ref a0)]) (by decide) (Nat.le_of_ble_eq_true rfl) rfl (fun X hX C => ?_)
  subst hX
  unfold fX12_wrong
  refine z_iconst (v := (0 : Int32)) C dX12_wrong_0 rfl ?_
  refine z_istore_n C dX12_wrong_1 [(1, .int (0 : Int32)), (0, .ref a0)] (by decide) rfl ?_
  exact z_lv _ [1, 0] rfl (tX12_wrong_2 C N N _ a0 (0 : Int32))
def bX12_can_127 (N : Nat) (r36 : AH → Nat → Int32 → Int32 → Int32 → Int32 → Int32 → Int32 → Option (Int32 × AH)) (h : AH) (a0 : Nat) (x1 : Int32) (x2 : Int32) (x3 : Int32) (x5 : Int32) (x6 : Int32) (x7 : Int32) (s0 : Int32) (s1 : Int32) : Option (Int32 × AH) :=
  znm (s0 + s1) fun y_1 =>
  (if x7 = (0) then
  r36 h a0 x1 x2 x3 y_1 x5 (x6 + (-1 : Int32))
  else
  r36 h a0 x1 x2 x3 y_1 x6 (x6 + (-1 : Int32)))
theorem tX12_can_127 {X : zX} {g : zG} (C : zC X g yX12_can cX12_can 9 31 0 0 (some .int)) (N : Nat) {r36 : AH → Nat → Int32 → Int32 → Int32 → Int32 → Int32 → Int32 → Option (Int32 × AH)} (hr36 : ∀ (h : AH) (a0 : Nat) (x1 : Int32) (x2 : Int32) (x3 : Int32) (x4 : Int32) (x5 : Int32) (x6 : Int32), ZZ X g 9 (0, 0, 0, 0) (fun v : Int32 => some (.int v)) (r36 h a0 x1 x2 x3 x4 x5 x6) h 36 [(0, .ref a0), (1, .int x1), (2, .int x2), (3, .int x3), (4, .int x4), (5, .int x5), (6, .int x6)] []) (h : AH) (a0 : Nat) (x1 : Int32) (x2 : Int32) (x3 : Int32) (x5 : Int32) (x6 : Int32) (x7 : Int32) (s0 : Int32) (s1 : Int32) : ZZ X g 9 (0, 0, 0, 0) (fun v : Int32 => some (.int v)) (bX12_can_127 N r36 h a0 x1 x2 x3 x5 x6 x7 s0 s1) h 127 [(0, .ref a0), (1, .int x1), (2, .int x2), (3, .int x3), (5, .int x5), (6, .int x6), (7, .int x7)] [.int s1, .int s0] := by
  unfold bX12_can_127
  refine z_iadd C dX12_can_127 ?_
  refine z_nmI (fun y_1 => ?_)
  refine z_istore C dX12_can_128 [(4, .int y_1), (0, .ref a0), (1, .int x1), (2, .int x2), (3, .int x3), (5, .int x5), (6, .int x6), (7, .int x7)] (by decide) rfl ?_
  refine z_iload C 7 dX12_can_130 rfl ?_
  refine z_ifeq C 140 dX12_can_132 rfl ?_ ?_
  · refine z_iload C 5 dX12_can_140 rfl ?_
    refine z_istore C dX12_can_142 [(5, .int x5), (4, .int y_1), (0, .ref a0), (1, .int x1), (2, .int x2), (3, .int x3), (6, .int x6), (7, .int x7)] (by decide) rfl ?_
    refine z_iinc (v := x6 + (-1 : Int32)) C 6 dX12_can_144 [(6, .int (x6 + (-1 : Int32))), (5, .int x5), (4, .int y_1), (0, .ref a0), (1, .int x1), (2, .int x2), (3, .int x3), (7, .int x7)] rfl rfl (by decide) rfl ?_
    refine z_goto C 36 dX12_can_147 rfl ?_
    exact z_lv _ [3, 4, 5, 6, 2, 1, 0] rfl (hr36 _ a0 x1 x2 x3 y_1 x5 (x6 + (-1 : Int32)))
  · refine z_iload C 6 dX12_can_135 rfl ?_
    refine z_goto C 142 dX12_can_137 rfl ?_
    refine z_istore C dX12_can_142 [(5, .int x6), (4, .int y_1), (0, .ref a0), (1, .int x1), (2, .int x2), (3, .int x3), (6, .int x6), (7, .int x7)] (by decide) rfl ?_
    refine z_iinc (v := x6 + (-1 : Int32)) C 6 dX12_can_144 [(6, .int (x6 + (-1 : Int32))), (5, .int x6), (4, .int y_1), (0, .ref a0), (1, .int x1), (2, .int x2), (3, .int x3), (7, .int x7)] rfl rfl (by decide) rfl ?_
    refine z_goto C 36 dX12_can_147 rfl ?_
    exact z_lv _ [3, 4, 5, 6, 2, 1, 0] rfl (hr36 _ a0 x1 x2 x3 y_1 x6 (x6 + (-1 : Int32)))
def bX12_can_60 (N : Nat) (r36 : AH → Nat → Int32 → Int32 → Int32 → Int32 → Int32 → Int32 → Option (Int32 × AH)) (r60 : AH → Nat → Int32 → Int32 → Int32 → Int32 → Int32 → Int32 → Int32 → Int32 → Option (Int32 × AH)) (h : AH) (a0 : Nat) (x1 : Int32) (x2 : Int32) (x3 : Int32) (x4 : Int32) (x5 : Int32) (x6 : Int32) (x7 : Int32) (x8 : Int32) : Option (Int32 × AH) :=
  (zgR h a0 12 0).bind fun a_1 =>
  (zald 0 h a_1 (81 : Int32)).bind fun v_2 =>
  (if v_2 ≤ x8 then
  (if x7 = (0) then
  bX12_can_127 N r36 h a0 x1 x2 x3 x5 x6 x7 x4 (0 : Int32)
  else
  bX12_can_127 N r36 h a0 x1 x2 x3 x5 x6 x7 x4 (1 : Int32))
  else
  (if x7 = (0) then
  r60 h a0 x1 x2 x3 x4 x5 x6 (0 : Int32) (x8 + (1 : Int32))
  else
  (zgR h a0 12 0).bind fun a_3 =>
  (zald 0 h a_3 ((82 : Int32) + ((4 : Int32) * x8))).bind fun v_4 =>
  (if v_4 = x1 then
  (zis h a0 12).bind fun _ =>
  zcall (fX12_isSo N h a0 x8) fun v_6 h_5 =>
  (if v_6 = (0) then
  r60 h_5 a0 x1 x2 x3 x4 x5 x6 (0 : Int32) (x8 + (1 : Int32))
  else
  r60 h_5 a0 x1 x2 x3 x4 x5 x6 (1 : Int32) (x8 + (1 : Int32)))
  else
  r60 h a0 x1 x2 x3 x4 x5 x6 (1 : Int32) (x8 + (1 : Int32)))))
theorem tX12_can_60 {X : zX} {g : zG} (C : zC X g yX12_can cX12_can 9 31 0 0 (some .int)) (N : Nat) {r36 : AH → Nat → Int32 → Int32 → Int32 → Int32 → Int32 → Int32 → Option (Int32 × AH)} (hr36 : ∀ (h : AH) (a0 : Nat) (x1 : Int32) (x2 : Int32) (x3 : Int32) (x4 : Int32) (x5 : Int32) (x6 : Int32), ZZ X g 9 (0, 0, 0, 0) (fun v : Int32 => some (.int v)) (r36 h a0 x1 x2 x3 x4 x5 x6) h 36 [(0, .ref a0), (1, .int x1), (2, .int x2), (3, .int x3), (4, .int x4), (5, .int x5), (6, .int x6)] []) (n : Nat) : ∀ (h : AH) (a0 : Nat) (x1 : Int32) (x2 : Int32) (x3 : Int32) (x4 : Int32) (x5 : Int32) (x6 : Int32) (x7 : Int32) (x8 : Int32), ZZ X g 9 (0, 0, 0, 0) (fun v : Int32 => some (.int v)) (zfix (fun _ _ _ _ _ _ _ _ _ _ => none) (bX12_can_60 N r36) n h a0 x1 x2 x3 x4 x5 x6 x7 x8) h 60 [(0, .ref a0), (1, .int x1), (2, .int x2), (3, .int x3), (4, .int x4), (5, .int x5), (6, .int x6), (7, .int x7), (8, .int x8)] [] := by
  induction n with
  | zero => intro h a0 x1 x2 x3 x4 x5 x6 x7 x8; exact z_none
  | succ n hr60 =>
    intro h a0 x1 x2 x3 x4 x5 x6 x7 x8
    show ZZ X g 9 (0, 0, 0, 0) _ (bX12_can_60 N r36 (zfix (fun _ _ _ _ _ _ _ _ _ _ => none) (bX12_can_60 N r36) n) h a0 x1 x2 x3 x4 x5 x6 x7 x8) h 60 _ _
    unfold bX12_can_60
    refine z_iload C 8 dX12_can_60 rfl ?_
    refine z_aload_n C 0 dX12_can_62 rfl ?_
    refine z_getR C qX12_9 dX12_can_63 (fun a_1 => ?_)
    refine z_bipush (v := (81 : Int32)) C dX12_can_66 rfl ?_
    refine z_iaload C dX12_can_68 (fun v_2 => ?_)
    refine z_icmpge C 115 dX12_can_69 rfl ?_ ?_
    · refine z_iload C 4 dX12_can_115 rfl ?_
      refine z_iload C 7 dX12_can_117 rfl ?_
      refine z_ifeq C 126 dX12_can_119 rfl ?_ ?_
      · refine z_iconst (v := (0 : Int32)) C dX12_can_126 rfl ?_
        exact z_lv _ [0, 1, 2, 3, 5, 6, 7] rfl (tX12_can_127 C N hr36 _ a0 x1 x2 x3 x5 x6 x7 x4 (0 : Int32))
      · refine z_iconst (v := (1 : Int32)) C dX12_can_122 rfl ?_
        refine z_goto C 127 dX12_can_123 rfl ?_
        exact z_lv _ [0, 1, 2, 3, 5, 6, 7] rfl (tX12_can_127 C N hr36 _ a0 x1 x2 x3 x5 x6 x7 x4 (1 : Int32))
    · refine z_iload C 7 dX12_can_72 rfl ?_
      refine z_ifeq C 106 dX12_can_74 rfl ?_ ?_
      · refine z_iconst (v := (0 : Int32)) C dX12_can_106 rfl ?_
        refine z_istore C dX12_can_107 [(7, .int (0 : Int32)), (0, .ref a0), (1, .int x1), (2, .int x2), (3, .int x3), (4, .int x4), (5, .int x5), (6, .int x6), (8, .int x8)] (by decide) rfl ?_
        refine z_iinc (v := x8 + (1 : Int32)) C 8 dX12_can_109 [(8, .int (x8 + (1 : Int32))), (7, .int (0 : Int32)), (0, .ref a0), (1, .int x1), (2, .int x2), (3, .int x3), (4, .int x4), (5, .int x5), (6, .int x6)] rfl rfl (by decide) rfl ?_
        refine z_goto C 60 dX12_can_112 rfl ?_
        exact z_lv _ [2, 3, 4, 5, 6, 7, 8, 1, 0] rfl (hr60 _ a0 x1 x2 x3 x4 x5 x6 (0 : Int32) (x8 + (1 : Int32)))
      · refine z_aload_n C 0 dX12_can_77 rfl ?_
        refine z_getR C qX12_9 dX12_can_78 (fun a_3 => ?_)
        refine z_bipush (v := (82 : Int32)) C dX12_can_81 rfl ?_
        refine z_iconst (v := (4 : Int32)) C dX12_can_83 rfl ?_
        refine z_iload C 8 dX12_can_84 rfl ?_
        refine z_imul C dX12_can_86 ?_
        refine z_iadd C dX12_can_87 ?_
        refine z_iaload C dX12_can_88 (fun v_4 => ?_)
        refine z_iload_n C 1 dX12_can_89 rfl ?_
        refine z_icmpne C 102 dX12_can_90 rfl ?_ ?_
        · refine z_iconst (v := (1 : Int32)) C dX12_can_102 rfl ?_
          refine z_goto C 107 dX12_can_103 rfl ?_
          refine z_istore C dX12_can_107 [(7, .int (1 : Int32)), (0, .ref a0), (1, .int x1), (2, .int x2), (3, .int x3), (4, .int x4), (5, .int x5), (6, .int x6), (8, .int x8)] (by decide) rfl ?_
          refine z_iinc (v := x8 + (1 : Int32)) C 8 dX12_can_109 [(8, .int (x8 + (1 : Int32))), (7, .int (1 : Int32)), (0, .ref a0), (1, .int x1), (2, .int x2), (3, .int x3), (4, .int x4), (5, .int x5), (6, .int x6)] rfl rfl (by decide) rfl ?_
          refine z_goto C 60 dX12_can_112 rfl ?_
          exact z_lv _ [2, 3, 4, 5, 6, 7, 8, 1, 0] rfl (hr60 _ a0 x1 x2 x3 x4 x5 x6 (1 : Int32) (x8 + (1 : Int32)))
        · refine z_aload_n C 0 dX12_can_93 rfl ?_
          refine z_iload C 8 dX12_can_94 rfl ?_
          refine z_bind (fun _ q_7 => ?_)
          refine z_calli (z_runV (As := [.int x8]) (rest := []) C mX12_235 (kX12_isSo N h a0 x8) q_7 (Nat.le_of_ble_eq_true rfl) ⟨Nat.zero_le _, Nat.zero_le _⟩ dX12_can_96 rfl rfl (Nat.le_of_ble_eq_true rfl)) rfl (fun v_6 h_5 => ?_)
          refine z_ifeq C 106 dX12_can_99 rfl ?_ ?_
          · refine z_iconst (v := (0 : Int32)) C dX12_can_106 rfl ?_
            refine z_istore C dX12_can_107 [(7, .int (0 : Int32)), (0, .ref a0), (1, .int x1), (2, .int x2), (3, .int x3), (4, .int x4), (5, .int x5), (6, .int x6), (8, .int x8)] (by decide) rfl ?_
            refine z_iinc (v := x8 + (1 : Int32)) C 8 dX12_can_109 [(8, .int (x8 + (1 : Int32))), (7, .int (0 : Int32)), (0, .ref a0), (1, .int x1), (2, .int x2), (3, .int x3), (4, .int x4), (5, .int x5), (6, .int x6)] rfl rfl (by decide) rfl ?_
            refine z_goto C 60 dX12_can_112 rfl ?_
            exact z_lv _ [2, 3, 4, 5, 6, 7, 8, 1, 0] rfl (hr60 _ a0 x1 x2 x3 x4 x5 x6 (0 : Int32) (x8 + (1 : Int32)))
          · refine z_iconst (v := (1 : Int32)) C dX12_can_102 rfl ?_
            refine z_goto C 107 dX12_can_103 rfl ?_
            refine z_istore C dX12_can_107 [(7, .int (1 : Int32)), (0, .ref a0), (1, .int x1), (2, .int x2), (3, .int x3), (4, .int x4), (5, .int x5), (6, .int x6), (8, .int x8)] (by decide) rfl ?_
            refine z_iinc (v := x8 + (1 : Int32)) C 8 dX12_can_109 [(8, .int (x8 + (1 : Int32))), (7, .int (1 : Int32)), (0, .ref a0), (1, .int x1), (2, .int x2), (3, .int x3), (4, .int x4), (5, .int x5), (6, .int x6)] rfl rfl (by decide) rfl ?_
            refine z_goto C 60 dX12_can_112 rfl ?_
            exact z_lv _ [2, 3, 4, 5, 6, 7, 8, 1, 0] rfl (hr60 _ a0 x1 x2 x3 x4 x5 x6 (1 : Int32) (x8 + (1 : Int32)))
def bX12_can_36 (N : Nat) (r36 : AH → Nat → Int32 → Int32 → Int32 → Int32 → Int32 → Int32 → Option (Int32 × AH)) (h : AH) (a0 : Nat) (x1 : Int32) (x2 : Int32) (x3 : Int32) (x4 : Int32) (x5 : Int32) (x6 : Int32) : Option (Int32 × AH) :=
  (if x6 < (0) then
  (zgR h a0 12 0).bind fun a_1 =>
  (zast 0 h a_1 (((7 : Int32) * x1) + (1 : Int32)) x3).bind fun h_2 =>
  (if x2 = (0) then
  some (x4, h_2)
  else
  some (x5, h_2))
  else
  (zgR h a0 12 0).bind fun a_3 =>
  (zast 0 h a_3 (((7 : Int32) * x1) + (1 : Int32)) x6).bind fun h_4 =>
  zfix (fun _ _ _ _ _ _ _ _ _ _ => none) (bX12_can_60 N r36) N h_4 a0 x1 x2 x3 x4 x5 x6 (1 : Int32) (0 : Int32))
theorem tX12_can_36 {X : zX} {g : zG} (C : zC X g yX12_can cX12_can 9 31 0 0 (some .int)) (N : Nat) (n : Nat) : ∀ (h : AH) (a0 : Nat) (x1 : Int32) (x2 : Int32) (x3 : Int32) (x4 : Int32) (x5 : Int32) (x6 : Int32), ZZ X g 9 (0, 0, 0, 0) (fun v : Int32 => some (.int v)) (zfix (fun _ _ _ _ _ _ _ _ => none) (bX12_can_36 N) n h a0 x1 x2 x3 x4 x5 x6) h 36 [(0, .ref a0), (1, .int x1), (2, .int x2), (3, .int x3), (4, .int x4), (5, .int x5), (6, .int x6)] [] := by
  induction n with
  | zero => intro h a0 x1 x2 x3 x4 x5 x6; exact z_none
  | succ n hr36 =>
    intro h a0 x1 x2 x3 x4 x5 x6
    show ZZ X g 9 (0, 0, 0, 0) _ (bX12_can_36 N (zfix (fun _ _ _ _ _ _ _ _ => none) (bX12_can_36 N) n) h a0 x1 x2 x3 x4 x5 x6) h 36 _ _
    unfold bX12_can_36
    refine z_iload C 6 dX12_can_36 rfl ?_
    refine z_iflt C 150 dX12_can_38 rfl ?_ ?_
    · refine z_aload_n C 0 dX12_can_150 rfl ?_
      refine z_getR C qX12_9 dX12_can_151 (fun a_1 => ?_)
      refine z_bipush (v := (7 : Int32)) C dX12_can_154 rfl ?_
      refine z_iload_n C 1 dX12_can_156 rfl ?_
      refine z_imul C dX12_can_157 ?_
      refine z_iconst (v := (1 : Int32)) C dX12_can_158 rfl ?_
      refine z_iadd C dX12_can_159 ?_
      refine z_iload_n C 3 dX12_can_160 rfl ?_
      refine z_iastore C dX12_can_161 (fun h_2 => ?_)
      refine z_iload_n C 2 dX12_can_162 rfl ?_
      refine z_ifne C 171 dX12_can_163 rfl ?_ ?_
      · refine z_iload C 5 dX12_can_171 rfl ?_
        exact z_ireturn C ⟨rfl, rfl⟩ dX12_can_173
      · refine z_iload C 4 dX12_can_166 rfl ?_
        refine z_goto C 173 dX12_can_168 rfl ?_
        exact z_ireturn C ⟨rfl, rfl⟩ dX12_can_173
    · refine z_aload_n C 0 dX12_can_41 rfl ?_
      refine z_getR C qX12_9 dX12_can_42 (fun a_3 => ?_)
      refine z_bipush (v := (7 : Int32)) C dX12_can_45 rfl ?_
      refine z_iload_n C 1 dX12_can_47 rfl ?_
      refine z_imul C dX12_can_48 ?_
      refine z_iconst (v := (1 : Int32)) C dX12_can_49 rfl ?_
      refine z_iadd C dX12_can_50 ?_
      refine z_iload C 6 dX12_can_51 rfl ?_
      refine z_iastore C dX12_can_53 (fun h_4 => ?_)
      refine z_iconst (v := (1 : Int32)) C dX12_can_54 rfl ?_
      refine z_istore C dX12_can_55 [(7, .int (1 : Int32)), (0, .ref a0), (1, .int x1), (2, .int x2), (3, .int x3), (4, .int x4), (5, .int x5), (6, .int x6)] (by decide) rfl ?_
      refine z_iconst (v := (0 : Int32)) C dX12_can_57 rfl ?_
      refine z_istore C dX12_can_58 [(8, .int (0 : Int32)), (7, .int (1 : Int32)), (0, .ref a0), (1, .int x1), (2, .int x2), (3, .int x3), (4, .int x4), (5, .int x5), (6, .int x6)] (by decide) rfl ?_
      exact z_lv _ [2, 3, 4, 5, 6, 7, 8, 1, 0] rfl (tX12_can_60 C N hr36 N _ a0 x1 x2 x3 x4 x5 x6 (1 : Int32) (0 : Int32))
def fX12_can (N : Nat) (h : AH) (a0 : Nat) (x1 : Int32) (x2 : Int32) : Option (Int32 × AH) :=
  (zis h a0 12).bind fun _ =>
  zcall (fX12_isMaster N h a0 x1) fun v_2 h_1 =>
  (if v_2 = (0) then
  some ((-1 : Int32), h_1)
  else
  zcall (fX12_isIn N h_1 x2 (0 : Int32) (1 : Int32)) fun v_5 h_4 =>
  (if v_5 = (0) then
  some ((-1 : Int32), h_4)
  else
  (zis h_4 a0 12).bind fun _ =>
  zcall (fX12_v N h_4 a0 x1) fun v_7 h_6 =>
  zfix (fun _ _ _ _ _ _ _ _ => none) (bX12_can_36 N) N h_6 a0 x1 x2 v_7 (0 : Int32) (-5 : Int32) (9 : Int32)))
theorem kX12_can {l : Launch} {g : zG} (N : Nat) (h : AH) (a0 : Nat) (x1 : Int32) (x2 : Int32) : zM l g yX12_can cX12_can 9 (some .int) (31) 0 0 (fun v : Int32 => some (.int v)) (fX12_can N h a0 x1 x2) h [.ref a0, .int x1, .int x2] := by
  refine zM.of (lv0 := [(0, .ref a0), (1, .int x1), (2, .int x2)]) (by decide) (Nat.le_of_ble_eq_true rfl) rfl (fun X hX C => ?_)
  subst hX
  unfold fX12_can
  refine z_aload_n C 0 dX12_can_0 rfl ?_
  refine z_iload_n C 1 dX12_can_1 rfl ?_
  refine z_bind (fun _ q_3 => ?_)
  refine z_calli (z_runV (As := [.int x1]) (rest := []) C mX12_80 (kX12_isMaster N h a0 x1) q_3 (Nat.le_of_ble_eq_true rfl) ⟨Nat.zero_le _, Nat.zero_le _⟩ dX12_can_2 rfl rfl (Nat.le_of_ble_eq_true rfl)) rfl (fun v_2 h_1 => ?_)
  refine z_ifeq C 17 dX12_can_5 rfl ?_ ?_
  · refine z_iconst (v := (-1 : Int32)) C dX12_can_17 rfl ?_
    exact z_ireturn C ⟨rfl, rfl⟩ dX12_can_18
  · refine z_iload_n C 2 dX12_can_8 rfl ?_
    refine z_iconst (v := (0 : Int32)) C dX12_can_9 rfl ?_
    refine z_iconst (v := (1 : Int32)) C dX12_can_10 rfl ?_
    refine z_calli (z_runS (As := [.int x2, .int (0 : Int32), .int (1 : Int32)]) (rest := []) C mX12_76 (kX12_isIn N h_1 x2 (0 : Int32) (1 : Int32)) (Nat.le_of_ble_eq_true rfl) ⟨Nat.zero_le _, Nat.zero_le _⟩ dX12_can_11 rfl rfl (Nat.le_of_ble_eq_true rfl)) rfl (fun v_5 h_4 => ?_)
    refine z_ifne C 19 dX12_can_14 rfl ?_ ?_
    · refine z_aload_n C 0 dX12_can_19 rfl ?_
      refine z_iload_n C 1 dX12_can_20 rfl ?_
      refine z_bind (fun _ q_8 => ?_)
      refine z_calli (z_runV (As := [.int x1]) (rest := []) C mX12_163 (kX12_v N h_4 a0 x1) q_8 (Nat.le_of_ble_eq_true rfl) ⟨Nat.zero_le _, Nat.zero_le _⟩ dX12_can_21 rfl rfl (Nat.le_of_ble_eq_true rfl)) rfl (fun v_7 h_6 => ?_)
      refine z_istore_n C dX12_can_24 [(3, .int v_7), (0, .ref a0), (1, .int x1), (2, .int x2)] (by decide) rfl ?_
      refine z_iconst (v := (0 : Int32)) C dX12_can_25 rfl ?_
      refine z_istore C dX12_can_26 [(4, .int (0 : Int32)), (3, .int v_7), (0, .ref a0), (1, .int x1), (2, .int x2)] (by decide) rfl ?_
      refine z_bipush (v := (-5 : Int32)) C dX12_can_28 rfl ?_
      refine z_istore C dX12_can_30 [(5, .int (-5 : Int32)), (4, .int (0 : Int32)), (3, .int v_7), (0, .ref a0), (1, .int x1), (2, .int x2)] (by decide) rfl ?_
      refine z_bipush (v := (9 : Int32)) C dX12_can_32 rfl ?_
      refine z_istore C dX12_can_34 [(6, .int (9 : Int32)), (5, .int (-5 : Int32)), (4, .int (0 : Int32)), (3, .int v_7), (0, .ref a0), (1, .int x1), (2, .int x2)] (by decide) rfl ?_
      exact z_lv _ [4, 5, 6, 3, 2, 1, 0] rfl (tX12_can_36 C N N _ a0 x1 x2 v_7 (0 : Int32) (-5 : Int32) (9 : Int32))
    · refine z_iconst (v := (-1 : Int32)) C dX12_can_17 rfl ?_
      exact z_ireturn C ⟨rfl, rfl⟩ dX12_can_18
def bX12_knew_124 (N : Nat) (r91 : AH → Int32 → Int32 → Int32 → Int32 → Int32 → Int32 → Option (Int32 × AH)) (h : AH) (x2 : Int32) (x4 : Int32) (x5 : Int32) (x7 : Int32) (x8 : Int32) (x9 : Int32) (s0 : Int32) (s1 : Int32) : Option (Int32 × AH) :=
  znm (s0 + s1) fun y_1 =>
  (if x9 = (0) then
  r91 h x2 x4 x5 y_1 x7 (x8 + (-1 : Int32))
  else
  r91 h x2 x4 x5 y_1 x8 (x8 + (-1 : Int32)))
theorem tX12_knew_124 {X : zX} {g : zG} (C : zC X g yX12_knew cX12_knew 10 31 0 0 (some .int)) (N : Nat) {r91 : AH → Int32 → Int32 → Int32 → Int32 → Int32 → Int32 → Option (Int32 × AH)} (hr91 : ∀ (h : AH) (x2 : Int32) (x4 : Int32) (x5 : Int32) (x6 : Int32) (x7 : Int32) (x8 : Int32), ZZ X g 10 (0, 0, 0, 0) (fun v : Int32 => some (.int v)) (r91 h x2 x4 x5 x6 x7 x8) h 91 [(2, .int x2), (4, .int x4), (5, .int x5), (6, .int x6), (7, .int x7), (8, .int x8)] []) (h : AH) (x2 : Int32) (x4 : Int32) (x5 : Int32) (x7 : Int32) (x8 : Int32) (x9 : Int32) (s0 : Int32) (s1 : Int32) : ZZ X g 10 (0, 0, 0, 0) (fun v : Int32 => some (.int v)) (bX12_knew_124 N r91 h x2 x4 x5 x7 x8 x9 s0 s1) h 124 [(2, .int x2), (4, .int x4), (5, .int x5), (7, .int x7), (8, .int x8), (9, .int x9)] [.int s1, .int s0] := by
  unfold bX12_knew_124
  refine z_iadd C dX12_knew_124 ?_
  refine z_nmI (fun y_1 => ?_)
  refine z_istore C dX12_knew_125 [(6, .int y_1), (2, .int x2), (4, .int x4), (5, .int x5), (7, .int x7), (8, .int x8), (9, .int x9)] (by decide) rfl ?_
  refine z_iload C 6 dX12_knew_127 rfl ?_
  refine z_ifeq C 137 dX12_knew_129 rfl ?_ ?_
  · refine z_iload C 4 dX12_knew_137 rfl ?_
    refine z_istore C dX12_knew_139 [(7, .int x7), (6, .int y_1), (2, .int x2), (4, .int x4), (5, .int x5), (8, .int x8), (9, .int x9)] (by decide) rfl ?_
    refine z_iinc (v := x8 + (-1 : Int32)) C 5 dX12_knew_141 [(8, .int (x8 + (-1 : Int32))), (7, .int x7), (6, .int y_1), (2, .int x2), (4, .int x4), (5, .int x5), (9, .int x9)] rfl rfl (by decide) rfl ?_
    refine z_goto C 91 dX12_knew_144 rfl ?_
    exact z_lv _ [3, 4, 5, 2, 1, 0] rfl (hr91 _ x2 x4 x5 y_1 x7 (x8 + (-1 : Int32)))
  · refine z_iload C 5 dX12_knew_132 rfl ?_
    refine z_goto C 139 dX12_knew_134 rfl ?_
    refine z_istore C dX12_knew_139 [(7, .int x8), (6, .int y_1), (2, .int x2), (4, .int x4), (5, .int x5), (8, .int x8), (9, .int x9)] (by decide) rfl ?_
    refine z_iinc (v := x8 + (-1 : Int32)) C 5 dX12_knew_141 [(8, .int (x8 + (-1 : Int32))), (7, .int x8), (6, .int y_1), (2, .int x2), (4, .int x4), (5, .int x5), (9, .int x9)] rfl rfl (by decide) rfl ?_
    refine z_goto C 91 dX12_knew_144 rfl ?_
    exact z_lv _ [3, 4, 5, 2, 1, 0] rfl (hr91 _ x2 x4 x5 y_1 x8 (x8 + (-1 : Int32)))
def bX12_knew_110 (N : Nat) (r91 : AH → Int32 → Int32 → Int32 → Int32 → Int32 → Int32 → Option (Int32 × AH)) (h : AH) (x2 : Int32) (x4 : Int32) (x5 : Int32) (x6 : Int32) (x7 : Int32) (x8 : Int32) (s0 : Int32) : Option (Int32 × AH) :=
  (if s0 = (0) then
  bX12_knew_124 N r91 h x2 x4 x5 x7 x8 s0 x6 (0 : Int32)
  else
  bX12_knew_124 N r91 h x2 x4 x5 x7 x8 s0 x6 (1 : Int32))
theorem tX12_knew_110 {X : zX} {g : zG} (C : zC X g yX12_knew cX12_knew 10 31 0 0 (some .int)) (N : Nat) {r91 : AH → Int32 → Int32 → Int32 → Int32 → Int32 → Int32 → Option (Int32 × AH)} (hr91 : ∀ (h : AH) (x2 : Int32) (x4 : Int32) (x5 : Int32) (x6 : Int32) (x7 : Int32) (x8 : Int32), ZZ X g 10 (0, 0, 0, 0) (fun v : Int32 => some (.int v)) (r91 h x2 x4 x5 x6 x7 x8) h 91 [(2, .int x2), (4, .int x4), (5, .int x5), (6, .int x6), (7, .int x7), (8, .int x8)] []) (h : AH) (x2 : Int32) (x4 : Int32) (x5 : Int32) (x6 : Int32) (x7 : Int32) (x8 : Int32) (s0 : Int32) : ZZ X g 10 (0, 0, 0, 0) (fun v : Int32 => some (.int v)) (bX12_knew_110 N r91 h x2 x4 x5 x6 x7 x8 s0) h 110 [(2, .int x2), (4, .int x4), (5, .int x5), (6, .int x6), (7, .int x7), (8, .int x8)] [.int s0] := by
  unfold bX12_knew_110
  refine z_istore C dX12_knew_110 [(9, .int s0), (2, .int x2), (4, .int x4), (5, .int x5), (6, .int x6), (7, .int x7), (8, .int x8)] (by decide) rfl ?_
  refine z_iload C 4 dX12_knew_112 rfl ?_
  refine z_iload C 0 dX12_knew_114 rfl ?_
  refine z_ifeq C 123 dX12_knew_116 rfl ?_ ?_
  · refine z_iconst (v := (0 : Int32)) C dX12_knew_123 rfl ?_
    exact z_lv _ [1, 2, 3, 5, 6, 0] rfl (tX12_knew_124 C N hr91 _ x2 x4 x5 x7 x8 s0 x6 (0 : Int32))
  · refine z_iconst (v := (1 : Int32)) C dX12_knew_119 rfl ?_
    refine z_goto C 124 dX12_knew_120 rfl ?_
    exact z_lv _ [1, 2, 3, 5, 6, 0] rfl (tX12_knew_124 C N hr91 _ x2 x4 x5 x7 x8 s0 x6 (1 : Int32))
def bX12_knew_91 (N : Nat) (r91 : AH → Int32 → Int32 → Int32 → Int32 → Int32 → Int32 → Option (Int32 × AH)) (h : AH) (x2 : Int32) (x4 : Int32) (x5 : Int32) (x6 : Int32) (x7 : Int32) (x8 : Int32) : Option (Int32 × AH) :=
  (if x8 < (0) then
  (if x4 = (0) then
  some (x6, h)
  else
  some (x7, h))
  else
  (if (x8 &&& x5) = x2 then
  bX12_knew_110 N r91 h x2 x4 x5 x6 x7 x8 (1 : Int32)
  else
  bX12_knew_110 N r91 h x2 x4 x5 x6 x7 x8 (0 : Int32)))
theorem tX12_knew_91 {X : zX} {g : zG} (C : zC X g yX12_knew cX12_knew 10 31 0 0 (some .int)) (N : Nat) (n : Nat) : ∀ (h : AH) (x2 : Int32) (x4 : Int32) (x5 : Int32) (x6 : Int32) (x7 : Int32) (x8 : Int32), ZZ X g 10 (0, 0, 0, 0) (fun v : Int32 => some (.int v)) (zfix (fun _ _ _ _ _ _ _ => none) (bX12_knew_91 N) n h x2 x4 x5 x6 x7 x8) h 91 [(2, .int x2), (4, .int x4), (5, .int x5), (6, .int x6), (7, .int x7), (8, .int x8)] [] := by
  induction n with
  | zero => intro h x2 x4 x5 x6 x7 x8; exact z_none
  | succ n hr91 =>
    intro h x2 x4 x5 x6 x7 x8
    show ZZ X g 10 (0, 0, 0, 0) _ (bX12_knew_91 N (zfix (fun _ _ _ _ _ _ _ => none) (bX12_knew_91 N) n) h x2 x4 x5 x6 x7 x8) h 91 _ _
    unfold bX12_knew_91
    refine z_iload C 5 dX12_knew_91 rfl ?_
    refine z_iflt C 147 dX12_knew_93 rfl ?_ ?_
    · refine z_iload C 1 dX12_knew_147 rfl ?_
      refine z_ifne C 157 dX12_knew_149 rfl ?_ ?_
      · refine z_iload C 4 dX12_knew_157 rfl ?_
        exact z_ireturn C ⟨rfl, rfl⟩ dX12_knew_159
      · refine z_iload C 3 dX12_knew_152 rfl ?_
        refine z_goto C 159 dX12_knew_154 rfl ?_
        exact z_ireturn C ⟨rfl, rfl⟩ dX12_knew_159
    · refine z_iload C 5 dX12_knew_96 rfl ?_
      refine z_iload C 2 dX12_knew_98 rfl ?_
      refine z_iand C dX12_knew_100 ?_
      refine z_iload_n C 0 dX12_knew_101 rfl ?_
      refine z_icmpne C 109 dX12_knew_102 rfl ?_ ?_
      · refine z_iconst (v := (0 : Int32)) C dX12_knew_109 rfl ?_
        exact z_lv _ [0, 1, 2, 3, 4, 5] rfl (tX12_knew_110 C N hr91 _ x2 x4 x5 x6 x7 x8 (0 : Int32))
      · refine z_iconst (v := (1 : Int32)) C dX12_knew_105 rfl ?_
        refine z_goto C 110 dX12_knew_106 rfl ?_
        exact z_lv _ [0, 1, 2, 3, 4, 5] rfl (tX12_knew_110 C N hr91 _ x2 x4 x5 x6 x7 x8 (1 : Int32))
def bX12_knew_48 (N : Nat) (r48 : AH → Nat → Int32 → Int32 → Int32 → Int32 → Int32 → Int32 → Option (Int32 × AH)) (h : AH) (a0 : Nat) (x1 : Int32) (x2 : Int32) (x3 : Int32) (x4 : Int32) (x5 : Int32) (x6 : Int32) : Option (Int32 × AH) :=
  (if x3 ≤ x6 then
  zfix (fun _ _ _ _ _ _ _ => none) (bX12_knew_91 N) N h x2 x4 x5 (0 : Int32) (-5 : Int32) (255 : Int32)
  else
  (zgR h a0 12 0).bind fun a_1 =>
  (zald 0 h a_1 (79 : Int32)).bind fun v_2 =>
  (zis h a0 12).bind fun _ =>
  zcall (fX12_stays N h a0 x1 x5 (v_2 + x6)) fun v_4 h_3 =>
  r48 h_3 a0 x1 x2 x3 x4 v_4 (x6 + (1 : Int32)))
theorem tX12_knew_48 {X : zX} {g : zG} (C : zC X g yX12_knew cX12_knew 10 31 0 0 (some .int)) (N : Nat) (n : Nat) : ∀ (h : AH) (a0 : Nat) (x1 : Int32) (x2 : Int32) (x3 : Int32) (x4 : Int32) (x5 : Int32) (x6 : Int32), ZZ X g 10 (0, 0, 0, 0) (fun v : Int32 => some (.int v)) (zfix (fun _ _ _ _ _ _ _ _ => none) (bX12_knew_48 N) n h a0 x1 x2 x3 x4 x5 x6) h 48 [(0, .ref a0), (1, .int x1), (2, .int x2), (3, .int x3), (4, .int x4), (5, .int x5), (6, .int x6)] [] := by
  induction n with
  | zero => intro h a0 x1 x2 x3 x4 x5 x6; exact z_none
  | succ n hr48 =>
    intro h a0 x1 x2 x3 x4 x5 x6
    show ZZ X g 10 (0, 0, 0, 0) _ (bX12_knew_48 N (zfix (fun _ _ _ _ _ _ _ _ => none) (bX12_knew_48 N) n) h a0 x1 x2 x3 x4 x5 x6) h 48 _ _
    unfold bX12_knew_48
    refine z_iload C 6 dX12_knew_48 rfl ?_
    refine z_iload_n C 3 dX12_knew_50 rfl ?_
    refine z_icmpge C 79 dX12_knew_51 rfl ?_ ?_
    · refine z_iconst (v := (0 : Int32)) C dX12_knew_79 rfl ?_
      refine z_istore C dX12_knew_80 [(6, .int (0 : Int32)), (0, .ref a0), (1, .int x1), (2, .int x2), (3, .int x3), (4, .int x4), (5, .int x5)] (by decide) rfl ?_
      refine z_bipush (v := (-5 : Int32)) C dX12_knew_82 rfl ?_
      refine z_istore C dX12_knew_84 [(7, .int (-5 : Int32)), (6, .int (0 : Int32)), (0, .ref a0), (1, .int x1), (2, .int x2), (3, .int x3), (4, .int x4), (5, .int x5)] (by decide) rfl ?_
      refine z_sipush (v := (255 : Int32)) C dX12_knew_86 rfl ?_
      refine z_istore C dX12_knew_89 [(8, .int (255 : Int32)), (7, .int (-5 : Int32)), (6, .int (0 : Int32)), (0, .ref a0), (1, .int x1), (2, .int x2), (3, .int x3), (4, .int x4), (5, .int x5)] (by decide) rfl ?_
      exact z_lv _ [5, 7, 8, 2, 1, 0] rfl (tX12_knew_91 C N N _ x2 x4 x5 (0 : Int32) (-5 : Int32) (255 : Int32))
    · refine z_aload_n C 0 dX12_knew_54 rfl ?_
      refine z_iload_n C 1 dX12_knew_55 rfl ?_
      refine z_iload C 5 dX12_knew_56 rfl ?_
      refine z_aload_n C 0 dX12_knew_58 rfl ?_
      refine z_getR C qX12_9 dX12_knew_59 (fun a_1 => ?_)
      refine z_bipush (v := (79 : Int32)) C dX12_knew_62 rfl ?_
      refine z_iaload C dX12_knew_64 (fun v_2 => ?_)
      refine z_iload C 6 dX12_knew_65 rfl ?_
      refine z_iadd C dX12_knew_67 ?_
      refine z_bind (fun _ q_5 => ?_)
      refine z_calli (z_runV (As := [.int x1, .int x5, .int (v_2 + x6)]) (rest := []) C mX12_179 (kX12_stays N h a0 x1 x5 (v_2 + x6)) q_5 (Nat.le_of_ble_eq_true rfl) ⟨Nat.zero_le _, Nat.zero_le _⟩ dX12_knew_68 rfl rfl (Nat.le_of_ble_eq_true rfl)) rfl (fun v_4 h_3 => ?_)
      refine z_istore C dX12_knew_71 [(5, .int v_4), (0, .ref a0), (1, .int x1), (2, .int x2), (3, .int x3), (4, .int x4), (6, .int x6)] (by decide) rfl ?_
      refine z_iinc (v := x6 + (1 : Int32)) C 6 dX12_knew_73 [(6, .int (x6 + (1 : Int32))), (5, .int v_4), (0, .ref a0), (1, .int x1), (2, .int x2), (3, .int x3), (4, .int x4)] rfl rfl (by decide) rfl ?_
      refine z_goto C 48 dX12_knew_76 rfl ?_
      exact z_lv _ [2, 3, 4, 5, 6, 1, 0] rfl (hr48 _ a0 x1 x2 x3 x4 v_4 (x6 + (1 : Int32)))
def fX12_knew (N : Nat) (h : AH) (a0 : Nat) (x1 : Int32) (x2 : Int32) (x3 : Int32) (x4 : Int32) : Option (Int32 × AH) :=
  (zis h a0 12).bind fun _ =>
  zcall (fX12_isMaster N h a0 x1) fun v_2 h_1 =>
  (if v_2 = (0) then
  some ((-1 : Int32), h_1)
  else
  zcall (fX12_isIn N h_1 x4 (0 : Int32) (1 : Int32)) fun v_5 h_4 =>
  (if v_5 = (0) then
  some ((-1 : Int32), h_4)
  else
  zcall (fX12_isSet N h_4 x2) fun v_7 h_6 =>
  (if v_7 = (0) then
  some ((-2 : Int32), h_6)
  else
  zcall (fX12_isIn N h_6 x3 (0 : Int32) (20 : Int32)) fun v_9 h_8 =>
  (if v_9 = (0) then
  some ((-2 : Int32), h_8)
  else
  zfix (fun _ _ _ _ _ _ _ _ => none) (bX12_knew_48 N) N h_8 a0 x1 x2 x3 x4 (255 : Int32) (0 : Int32)))))
theorem kX12_knew {l : Launch} {g : zG} (N : Nat) (h : AH) (a0 : Nat) (x1 : Int32) (x2 : Int32) (x3 : Int32) (x4 : Int32) : zM l g yX12_knew cX12_knew 10 (some .int) (31) 0 0 (fun v : Int32 => some (.int v)) (fX12_knew N h a0 x1 x2 x3 x4) h [.ref a0, .int x1, .int x2, .int x3, .int x4] := by
  refine zM.of (lv0 := [(0, .ref a0), (1, .int x1), (2, .int x2), (3, .int x3), (4, .int x4)]) (by decide) (Nat.le_of_ble_eq_true rfl) rfl (fun X hX C => ?_)
  subst hX
  unfold fX12_knew
  refine z_aload_n C 0 dX12_knew_0 rfl ?_
  refine z_iload_n C 1 dX12_knew_1 rfl ?_
  refine z_bind (fun _ q_3 => ?_)
  refine z_calli (z_runV (As := [.int x1]) (rest := []) C mX12_80 (kX12_isMaster N h a0 x1) q_3 (Nat.le_of_ble_eq_true rfl) ⟨Nat.zero_le _, Nat.zero_le _⟩ dX12_knew_2 rfl rfl (Nat.le_of_ble_eq_true rfl)) rfl (fun v_2 h_1 => ?_)
  refine z_ifeq C 18 dX12_knew_5 rfl ?_ ?_
  · refine z_iconst (v := (-1 : Int32)) C dX12_knew_18 rfl ?_
    exact z_ireturn C ⟨rfl, rfl⟩ dX12_knew_19
  · refine z_iload C 4 dX12_knew_8 rfl ?_
    refine z_iconst (v := (0 : Int32)) C dX12_knew_10 rfl ?_
    refine z_iconst (v := (1 : Int32)) C dX12_knew_11 rfl ?_
    refine z_calli (z_runS (As := [.int x4, .int (0 : Int32), .int (1 : Int32)]) (rest := []) C mX12_76 (kX12_isIn N h_1 x4 (0 : Int32) (1 : Int32)) (Nat.le_of_ble_eq_true rfl) ⟨Nat.zero_le _, Nat.zero_le _⟩ dX12_knew_12 rfl rfl (Nat.le_of_ble_eq_true rfl)) rfl (fun v_5 h_4 => ?_)
    refine z_ifne C 20 dX12_knew_15 rfl ?_ ?_
    · refine z_iload_n C 2 dX12_knew_20 rfl ?_
      refine z_calli (z_runS (As := [.int x2]) (rest := []) C mX12_102 (kX12_isSet N h_4 x2) (Nat.le_of_ble_eq_true rfl) ⟨Nat.zero_le _, Nat.zero_le _⟩ dX12_knew_21 rfl rfl (Nat.le_of_ble_eq_true rfl)) rfl (fun v_7 h_6 => ?_)
      refine z_ifeq C 37 dX12_knew_24 rfl ?_ ?_
      · refine z_bipush (v := (-2 : Int32)) C dX12_knew_37 rfl ?_
        exact z_ireturn C ⟨rfl, rfl⟩ dX12_knew_39
      · refine z_iload_n C 3 dX12_knew_27 rfl ?_
        refine z_iconst (v := (0 : Int32)) C dX12_knew_28 rfl ?_
        refine z_bipush (v := (20 : Int32)) C dX12_knew_29 rfl ?_
        refine z_calli (z_runS (As := [.int x3, .int (0 : Int32), .int (20 : Int32)]) (rest := []) C mX12_76 (kX12_isIn N h_6 x3 (0 : Int32) (20 : Int32)) (Nat.le_of_ble_eq_true rfl) ⟨Nat.zero_le _, Nat.zero_le _⟩ dX12_knew_31 rfl rfl (Nat.le_of_ble_eq_true rfl)) rfl (fun v_9 h_8 => ?_)
        refine z_ifne C 40 dX12_knew_34 rfl ?_ ?_
        · refine z_sipush (v := (255 : Int32)) C dX12_knew_40 rfl ?_
          refine z_istore C dX12_knew_43 [(5, .int (255 : Int32)), (0, .ref a0), (1, .int x1), (2, .int x2), (3, .int x3), (4, .int x4)] (by decide) rfl ?_
          refine z_iconst (v := (0 : Int32)) C dX12_knew_45 rfl ?_
          refine z_istore C dX12_knew_46 [(6, .int (0 : Int32)), (5, .int (255 : Int32)), (0, .ref a0), (1, .int x1), (2, .int x2), (3, .int x3), (4, .int x4)] (by decide) rfl ?_
          exact z_lv _ [2, 3, 4, 5, 6, 1, 0] rfl (tX12_knew_48 C N N _ a0 x1 x2 x3 x4 (255 : Int32) (0 : Int32))
        · refine z_bipush (v := (-2 : Int32)) C dX12_knew_37 rfl ?_
          exact z_ireturn C ⟨rfl, rfl⟩ dX12_knew_39
    · refine z_iconst (v := (-1 : Int32)) C dX12_knew_18 rfl ?_
      exact z_ireturn C ⟨rfl, rfl⟩ dX12_knew_19
def bX12_fraction_6 (N : Nat) (r6 : AH → Int64 → Int64 → Int32 → Int64 → Int64 → Option (Int64 × AH)) (h : AH) (x0 : Int64) (x2 : Int64) (x4 : Int32) (x5 : Int64) (x7 : Int64) : Option (Int64 × AH) :=
  (if (lg_cmp x7 (0 : Int64)) = (0) then
  (if x4 = (0) then
  if x5 = 0 then none else
  some (x0 / x5, h)
  else
  if x5 = 0 then none else
  some (x2 / x5, h))
  else
  if x7 = 0 then none else
  znm (x5 - x5 / x7 * x7) fun y_4 =>
  r6 h x0 x2 x4 x7 y_4)
theorem tX12_fraction_6 {X : zX} {g : zG} (C : zC X g yX12_fraction cX12_fraction 11 1 0 0 (some .long)) (N : Nat) (n : Nat) : ∀ (h : AH) (x0 : Int64) (x2 : Int64) (x4 : Int32) (x5 : Int64) (x7 : Int64), ZZ X g 11 (0, 0, 0, 0) (fun v : Int64 => some (.long v)) (zfix (fun _ _ _ _ _ _ => none) (bX12_fraction_6 N) n h x0 x2 x4 x5 x7) h 6 [(0, .long x0), (2, .long x2), (4, .int x4), (5, .long x5), (7, .long x7)] [] := by
  induction n with
  | zero => intro h x0 x2 x4 x5 x7; exact z_none
  | succ n hr6 =>
    intro h x0 x2 x4 x5 x7
    show ZZ X g 11 (0, 0, 0, 0) _ (bX12_fraction_6 N (zfix (fun _ _ _ _ _ _ => none) (bX12_fraction_6 N) n) h x0 x2 x4 x5 x7) h 6 _ _
    unfold bX12_fraction_6
    refine z_lload C 4 dX12_fraction_6 rfl ?_
    refine z_lconst (v := (0 : Int64)) C dX12_fraction_8 rfl ?_
    refine z_lcmp C dX12_fraction_9 ?_
    refine z_ifeq C 31 dX12_fraction_10 rfl ?_ ?_
    · refine z_iload C 2 dX12_fraction_31 rfl ?_
      refine z_ifne C 43 dX12_fraction_33 rfl ?_ ?_
      · refine z_lload_n C 1 dX12_fraction_43 rfl ?_
        refine z_lload C 3 dX12_fraction_44 rfl ?_
        refine z_ite (fun _ => z_none) (fun q_1 => ?_)
        refine z_ldiv C dX12_fraction_46 q_1 ?_
        exact z_lreturn C ⟨rfl, rfl⟩ dX12_fraction_47
      · refine z_lload_n C 0 dX12_fraction_36 rfl ?_
        refine z_lload C 3 dX12_fraction_37 rfl ?_
        refine z_ite (fun _ => z_none) (fun q_2 => ?_)
        refine z_ldiv C dX12_fraction_39 q_2 ?_
        refine z_goto C 47 dX12_fraction_40 rfl ?_
        exact z_lreturn C ⟨rfl, rfl⟩ dX12_fraction_47
    · refine z_lload C 3 dX12_fraction_13 rfl ?_
      refine z_lload C 4 dX12_fraction_15 rfl ?_
      refine z_ite (fun _ => z_none) (fun q_3 => ?_)
      refine z_lrem C dX12_fraction_17 q_3 ?_
      refine z_nmL (fun y_4 => ?_)
      refine z_lstore C dX12_fraction_18 [(9, .long y_4), (0, .long x0), (2, .long x2), (4, .int x4), (5, .long x5), (7, .long x7)] (by decide) rfl ?_
      refine z_lload C 5 dX12_fraction_20 rfl ?_
      refine z_lstore C dX12_fraction_22 [(5, .long x7), (9, .long y_4), (0, .long x0), (2, .long x2), (4, .int x4), (7, .long x7)] (by decide) rfl ?_
      refine z_lload C 1 dX12_fraction_24 rfl ?_
      refine z_lstore C dX12_fraction_26 [(7, .long y_4), (5, .long x7), (9, .long y_4), (0, .long x0), (2, .long x2), (4, .int x4)] (by decide) rfl ?_
      refine z_goto C 6 dX12_fraction_28 rfl ?_
      exact z_lv _ [3, 4, 5, 1, 0] rfl (hr6 _ x0 x2 x4 x7 y_4)
def fX12_fraction (N : Nat) (h : AH) (x0 : Int64) (x2 : Int64) (x4 : Int32) : Option (Int64 × AH) :=
  zfix (fun _ _ _ _ _ _ => none) (bX12_fraction_6 N) N h x0 x2 x4 x0 x2
theorem kX12_fraction {l : Launch} {g : zG} (N : Nat) (h : AH) (x0 : Int64) (x2 : Int64) (x4 : Int32) : zM l g yX12_fraction cX12_fraction 11 (some .long) (1) 0 0 (fun v : Int64 => some (.long v)) (fX12_fraction N h x0 x2 x4) h [.long x0, .long x2, .int x4] := by
  refine zM.of (lv0 := [(0, .long x0), (2, .long x2), (4, .int x4)]) (by decide) (Nat.le_of_ble_eq_true rfl) rfl (fun X hX C => ?_)
  subst hX
  unfold fX12_fraction
  refine z_lload_n C 0 dX12_fraction_0 rfl ?_
  refine z_lstore C dX12_fraction_1 [(5, .long x0), (0, .long x0), (2, .long x2), (4, .int x4)] (by decide) rfl ?_
  refine z_lload_n C 2 dX12_fraction_3 rfl ?_
  refine z_lstore C dX12_fraction_4 [(7, .long x2), (5, .long x0), (0, .long x0), (2, .long x2), (4, .int x4)] (by decide) rfl ?_
  exact z_lv _ [2, 3, 4, 1, 0] rfl (tX12_fraction_6 C N N _ x0 x2 x4 x0 x2)
def bX12_odds_35 (N : Nat) (r35 : AH → Nat → Int32 → Int32 → Int32 → Int32 → Option (Int64 × AH)) (h : AH) (a0 : Nat) (x1 : Int32) (x2 : Int32) (x3 : Int32) (x4 : Int32) : Option (Int64 × AH) :=
  (zgR h a0 12 0).bind fun a_1 =>
  (zald 0 h a_1 (78 : Int32)).bind fun v_2 =>
  (if v_2 ≤ x4 then
  (zgR h a0 12 0).bind fun a_3 =>
  (zald 0 h a_3 (78 : Int32)).bind fun v_4 =>
  zcall (fX12_fraction N h (x3.toInt64) (v_4.toInt64) x2) fun v_6 h_5 =>
  some (v_6, h_5)
  else
  (zis h a0 12).bind fun _ =>
  zcall (fX12_held N h a0 ((31 : Int32) &&& (((1 : Int32) <<< (x4 &&& 31)) ^^^ (-1 : Int32)))) fun v_8 h_7 =>
  (if (x1 &&& (v_8 ^^^ (-1 : Int32))) = (0) then
  znm (x3 + (1 : Int32)) fun y_11 =>
  r35 h_7 a0 x1 x2 y_11 (x4 + (1 : Int32))
  else
  znm (x3 + (0 : Int32)) fun y_10 =>
  r35 h_7 a0 x1 x2 y_10 (x4 + (1 : Int32))))
theorem tX12_odds_35 {X : zX} {g : zG} (C : zC X g yX12_odds cX12_odds 5 3 0 0 (some .long)) (N : Nat) (n : Nat) : ∀ (h : AH) (a0 : Nat) (x1 : Int32) (x2 : Int32) (x3 : Int32) (x4 : Int32), ZZ X g 5 (0, 0, 0, 0) (fun v : Int64 => some (.long v)) (zfix (fun _ _ _ _ _ _ => none) (bX12_odds_35 N) n h a0 x1 x2 x3 x4) h 35 [(0, .ref a0), (1, .int x1), (2, .int x2), (3, .int x3), (4, .int x4)] [] := by
  induction n with
  | zero => intro h a0 x1 x2 x3 x4; exact z_none
  | succ n hr35 =>
    intro h a0 x1 x2 x3 x4
    show ZZ X g 5 (0, 0, 0, 0) _ (bX12_odds_35 N (zfix (fun _ _ _ _ _ _ => none) (bX12_odds_35 N) n) h a0 x1 x2 x3 x4) h 35 _ _
    unfold bX12_odds_35
    refine z_iload C 4 dX12_odds_35 rfl ?_
    refine z_aload_n C 0 dX12_odds_37 rfl ?_
    refine z_getR C qX12_9 dX12_odds_38 (fun a_1 => ?_)
    refine z_bipush (v := (78 : Int32)) C dX12_odds_41 rfl ?_
    refine z_iaload C dX12_odds_43 (fun v_2 => ?_)
    refine z_icmpge C 81 dX12_odds_44 rfl ?_ ?_
    · refine z_iload_n C 3 dX12_odds_81 rfl ?_
      refine z_i2l C dX12_odds_82 ?_
      refine z_aload_n C 0 dX12_odds_83 rfl ?_
      refine z_getR C qX12_9 dX12_odds_84 (fun a_3 => ?_)
      refine z_bipush (v := (78 : Int32)) C dX12_odds_87 rfl ?_
      refine z_iaload C dX12_odds_89 (fun v_4 => ?_)
      refine z_i2l C dX12_odds_90 ?_
      refine z_iload_n C 2 dX12_odds_91 rfl ?_
      refine z_calll (z_runS (As := [.long (x3.toInt64), .long (v_4.toInt64), .int x2]) (rest := []) C mX12_240 (kX12_fraction N h (x3.toInt64) (v_4.toInt64) x2) (Nat.le_of_ble_eq_true rfl) ⟨Nat.zero_le _, Nat.zero_le _⟩ dX12_odds_92 rfl rfl (Nat.le_of_ble_eq_true rfl)) rfl (fun v_6 h_5 => ?_)
      exact z_lreturn C ⟨rfl, rfl⟩ dX12_odds_95
    · refine z_iload_n C 3 dX12_odds_47 rfl ?_
      refine z_iload_n C 1 dX12_odds_48 rfl ?_
      refine z_aload_n C 0 dX12_odds_49 rfl ?_
      refine z_bipush (v := (31 : Int32)) C dX12_odds_50 rfl ?_
      refine z_iconst (v := (1 : Int32)) C dX12_odds_52 rfl ?_
      refine z_iload C 4 dX12_odds_53 rfl ?_
      refine z_ishl C dX12_odds_55 ?_
      refine z_iconst (v := (-1 : Int32)) C dX12_odds_56 rfl ?_
      refine z_ixor C dX12_odds_57 ?_
      refine z_iand C dX12_odds_58 ?_
      refine z_bind (fun _ q_9 => ?_)
      refine z_calli (z_runV (As := [.int ((31 : Int32) &&& (((1 : Int32) <<< (x4 &&& 31)) ^^^ (-1 : Int32)))]) (rest := [.int x1, .int x3]) C mX12_201 (kX12_held N h a0 ((31 : Int32) &&& (((1 : Int32) <<< (x4 &&& 31)) ^^^ (-1 : Int32)))) q_9 (Nat.le_of_ble_eq_true rfl) ⟨Nat.zero_le _, Nat.zero_le _⟩ dX12_odds_59 rfl rfl (Nat.le_of_ble_eq_true rfl)) rfl (fun v_8 h_7 => ?_)
      refine z_iconst (v := (-1 : Int32)) C dX12_odds_62 rfl ?_
      refine z_ixor C dX12_odds_63 ?_
      refine z_iand C dX12_odds_64 ?_
      refine z_ifne C 72 dX12_odds_65 rfl ?_ ?_
      · refine z_iconst (v := (0 : Int32)) C dX12_odds_72 rfl ?_
        refine z_iadd C dX12_odds_73 ?_
        refine z_nmI (fun y_10 => ?_)
        refine z_istore_n C dX12_odds_74 [(3, .int y_10), (0, .ref a0), (1, .int x1), (2, .int x2), (4, .int x4)] (by decide) rfl ?_
        refine z_iinc (v := x4 + (1 : Int32)) C 4 dX12_odds_75 [(4, .int (x4 + (1 : Int32))), (3, .int y_10), (0, .ref a0), (1, .int x1), (2, .int x2)] rfl rfl (by decide) rfl ?_
        refine z_goto C 35 dX12_odds_78 rfl ?_
        exact z_lv _ [2, 3, 4, 1, 0] rfl (hr35 _ a0 x1 x2 y_10 (x4 + (1 : Int32)))
      · refine z_iconst (v := (1 : Int32)) C dX12_odds_68 rfl ?_
        refine z_goto C 73 dX12_odds_69 rfl ?_
        refine z_iadd C dX12_odds_73 ?_
        refine z_nmI (fun y_11 => ?_)
        refine z_istore_n C dX12_odds_74 [(3, .int y_11), (0, .ref a0), (1, .int x1), (2, .int x2), (4, .int x4)] (by decide) rfl ?_
        refine z_iinc (v := x4 + (1 : Int32)) C 4 dX12_odds_75 [(4, .int (x4 + (1 : Int32))), (3, .int y_11), (0, .ref a0), (1, .int x1), (2, .int x2)] rfl rfl (by decide) rfl ?_
        refine z_goto C 35 dX12_odds_78 rfl ?_
        exact z_lv _ [2, 3, 4, 1, 0] rfl (hr35 _ a0 x1 x2 y_11 (x4 + (1 : Int32)))
def fX12_odds (N : Nat) (h : AH) (a0 : Nat) (x1 : Int32) (x2 : Int32) : Option (Int64 × AH) :=
  zcall (fX12_isSet N h x1) fun v_2 h_1 =>
  (if v_2 = (0) then
  some ((-9223372036854775808 : Int64), h_1)
  else
  zcall (fX12_isIn N h_1 x2 (0 : Int32) (1 : Int32)) fun v_4 h_3 =>
  (if v_4 = (0) then
  some ((-9223372036854775808 : Int64), h_3)
  else
  (zgR h_3 a0 12 0).bind fun a_5 =>
  (zald 0 h_3 a_5 (78 : Int32)).bind fun v_6 =>
  (if v_6 = (0) then
  some ((-9223372036854775808 : Int64), h_3)
  else
  zfix (fun _ _ _ _ _ _ => none) (bX12_odds_35 N) N h_3 a0 x1 x2 (0 : Int32) (0 : Int32))))
theorem kX12_odds {l : Launch} {g : zG} (N : Nat) (h : AH) (a0 : Nat) (x1 : Int32) (x2 : Int32) : zM l g yX12_odds cX12_odds 5 (some .long) (3) 0 0 (fun v : Int64 => some (.long v)) (fX12_odds N h a0 x1 x2) h [.ref a0, .int x1, .int x2] := by
  refine zM.of (lv0 := [(0, .ref a0), (1, .int x1), (2, .int x2)]) (by decide) (Nat.le_of_ble_eq_true rfl) rfl (fun X hX C => ?_)
  subst hX
  unfold fX12_odds
  refine z_iload_n C 1 dX12_odds_0 rfl ?_
  refine z_calli (z_runS (As := [.int x1]) (rest := []) C mX12_102 (kX12_isSet N h x1) (Nat.le_of_ble_eq_true rfl) ⟨Nat.zero_le _, Nat.zero_le _⟩ dX12_odds_1 rfl rfl (Nat.le_of_ble_eq_true rfl)) rfl (fun v_2 h_1 => ?_)
  refine z_ifeq C 26 dX12_odds_4 rfl ?_ ?_
  · refine z_ldc2_w (v := (-9223372036854775808 : Int64)) C dX12_odds_26 (tblG_at 1355 (by decide +kernel) (by decide +kernel)) ?_
    exact z_lreturn C ⟨rfl, rfl⟩ dX12_odds_29
  · refine z_iload_n C 2 dX12_odds_7 rfl ?_
    refine z_iconst (v := (0 : Int32)) C dX12_odds_8 rfl ?_
    refine z_iconst (v := (1 : Int32)) C dX12_odds_9 rfl ?_
    refine z_calli (z_runS (As := [.int x2, .int (0 : Int32), .int (1 : Int32)]) (rest := []) C mX12_76 (kX12_isIn N h_1 x2 (0 : Int32) (1 : Int32)) (Nat.le_of_ble_eq_true rfl) ⟨Nat.zero_le _, Nat.zero_le _⟩ dX12_odds_10 rfl rfl (Nat.le_of_ble_eq_true rfl)) rfl (fun v_4 h_3 => ?_)
    refine z_ifeq C 26 dX12_odds_13 rfl ?_ ?_
    · refine z_ldc2_w (v := (-9223372036854775808 : Int64)) C dX12_odds_26 (tblG_at 1355 (by decide +kernel) (by decide +kernel)) ?_
      exact z_lreturn C ⟨rfl, rfl⟩ dX12_odds_29
    · refine z_aload_n C 0 dX12_odds_16 rfl ?_
      refine z_getR C qX12_9 dX12_odds_17 (fun a_5 => ?_)
      refine z_bipush (v := (78 : Int32)) C dX12_odds_20 rfl ?_
      refine z_iaload C dX12_odds_22 (fun v_6 => ?_)
      refine z_ifne C 30 dX12_odds_23 rfl ?_ ?_
      · refine z_iconst (v := (0 : Int32)) C dX12_odds_30 rfl ?_
        refine z_istore_n C dX12_odds_31 [(3, .int (0 : Int32)), (0, .ref a0), (1, .int x1), (2, .int x2)] (by decide) rfl ?_
        refine z_iconst (v := (0 : Int32)) C dX12_odds_32 rfl ?_
        refine z_istore C dX12_odds_33 [(4, .int (0 : Int32)), (3, .int (0 : Int32)), (0, .ref a0), (1, .int x1), (2, .int x2)] (by decide) rfl ?_
        exact z_lv _ [2, 3, 4, 1, 0] rfl (tX12_odds_35 C N N _ a0 x1 x2 (0 : Int32) (0 : Int32))
      · refine z_ldc2_w (v := (-9223372036854775808 : Int64)) C dX12_odds_26 (tblG_at 1355 (by decide +kernel) (by decide +kernel)) ?_
        exact z_lreturn C ⟨rfl, rfl⟩ dX12_odds_29
def fX12_mean (N : Nat) (h : AH) (a0 : Nat) (x1 : Int32) (x2 : Int32) : Option (Int64 × AH) :=
  zcall (fX12_isIn N h x1 (0 : Int32) (60 : Int32)) fun v_2 h_1 =>
  (if v_2 = (0) then
  some ((-9223372036854775808 : Int64), h_1)
  else
  zcall (fX12_isIn N h_1 x2 (0 : Int32) (1 : Int32)) fun v_4 h_3 =>
  (if v_4 = (0) then
  some ((-9223372036854775808 : Int64), h_3)
  else
  (zgR h_3 a0 12 0).bind fun a_5 =>
  (zald 0 h_3 a_5 (76 : Int32)).bind fun v_6 =>
  (if v_6 = (0) then
  some ((-9223372036854775808 : Int64), h_3)
  else
  (zis h_3 a0 12).bind fun _ =>
  zcall (fX12_on N h_3 a0 x1 (1 : Int32)) fun v_8 h_7 =>
  (zgR h_7 a0 12 0).bind fun a_10 =>
  (zald 0 h_7 a_10 (76 : Int32)).bind fun v_11 =>
  zcall (fX12_fraction N h_7 (v_8.toInt64) (v_11.toInt64) x2) fun v_13 h_12 =>
  some (v_13, h_12))))
theorem kX12_mean {l : Launch} {g : zG} (N : Nat) (h : AH) (a0 : Nat) (x1 : Int32) (x2 : Int32) : zM l g yX12_mean cX12_mean 3 (some .long) (33) 0 0 (fun v : Int64 => some (.long v)) (fX12_mean N h a0 x1 x2) h [.ref a0, .int x1, .int x2] := by
  refine zM.of (lv0 := [(0, .ref a0), (1, .int x1), (2, .int x2)]) (by decide) (Nat.le_of_ble_eq_true rfl) rfl (fun X hX C => ?_)
  subst hX
  unfold fX12_mean
  refine z_iload_n C 1 dX12_mean_0 rfl ?_
  refine z_iconst (v := (0 : Int32)) C dX12_mean_1 rfl ?_
  refine z_bipush (v := (60 : Int32)) C dX12_mean_2 rfl ?_
  refine z_calli (z_runS (As := [.int x1, .int (0 : Int32), .int (60 : Int32)]) (rest := []) C mX12_76 (kX12_isIn N h x1 (0 : Int32) (60 : Int32)) (Nat.le_of_ble_eq_true rfl) ⟨Nat.zero_le _, Nat.zero_le _⟩ dX12_mean_4 rfl rfl (Nat.le_of_ble_eq_true rfl)) rfl (fun v_2 h_1 => ?_)
  refine z_ifeq C 29 dX12_mean_7 rfl ?_ ?_
  · refine z_ldc2_w (v := (-9223372036854775808 : Int64)) C dX12_mean_29 (tblG_at 1355 (by decide +kernel) (by decide +kernel)) ?_
    exact z_lreturn C ⟨rfl, rfl⟩ dX12_mean_32
  · refine z_iload_n C 2 dX12_mean_10 rfl ?_
    refine z_iconst (v := (0 : Int32)) C dX12_mean_11 rfl ?_
    refine z_iconst (v := (1 : Int32)) C dX12_mean_12 rfl ?_
    refine z_calli (z_runS (As := [.int x2, .int (0 : Int32), .int (1 : Int32)]) (rest := []) C mX12_76 (kX12_isIn N h_1 x2 (0 : Int32) (1 : Int32)) (Nat.le_of_ble_eq_true rfl) ⟨Nat.zero_le _, Nat.zero_le _⟩ dX12_mean_13 rfl rfl (Nat.le_of_ble_eq_true rfl)) rfl (fun v_4 h_3 => ?_)
    refine z_ifeq C 29 dX12_mean_16 rfl ?_ ?_
    · refine z_ldc2_w (v := (-9223372036854775808 : Int64)) C dX12_mean_29 (tblG_at 1355 (by decide +kernel) (by decide +kernel)) ?_
      exact z_lreturn C ⟨rfl, rfl⟩ dX12_mean_32
    · refine z_aload_n C 0 dX12_mean_19 rfl ?_
      refine z_getR C qX12_9 dX12_mean_20 (fun a_5 => ?_)
      refine z_bipush (v := (76 : Int32)) C dX12_mean_23 rfl ?_
      refine z_iaload C dX12_mean_25 (fun v_6 => ?_)
      refine z_ifne C 33 dX12_mean_26 rfl ?_ ?_
      · refine z_aload_n C 0 dX12_mean_33 rfl ?_
        refine z_iload_n C 1 dX12_mean_34 rfl ?_
        refine z_iconst (v := (1 : Int32)) C dX12_mean_35 rfl ?_
        refine z_bind (fun _ q_9 => ?_)
        refine z_calli (z_runV (As := [.int x1, .int (1 : Int32)]) (rest := []) C mX12_244 (kX12_on N h_3 a0 x1 (1 : Int32)) q_9 (Nat.le_of_ble_eq_true rfl) ⟨Nat.zero_le _, Nat.zero_le _⟩ dX12_mean_36 rfl rfl (Nat.le_of_ble_eq_true rfl)) rfl (fun v_8 h_7 => ?_)
        refine z_i2l C dX12_mean_39 ?_
        refine z_aload_n C 0 dX12_mean_40 rfl ?_
        refine z_getR C qX12_9 dX12_mean_41 (fun a_10 => ?_)
        refine z_bipush (v := (76 : Int32)) C dX12_mean_44 rfl ?_
        refine z_iaload C dX12_mean_46 (fun v_11 => ?_)
        refine z_i2l C dX12_mean_47 ?_
        refine z_iload_n C 2 dX12_mean_48 rfl ?_
        refine z_calll (z_runS (As := [.long (v_8.toInt64), .long (v_11.toInt64), .int x2]) (rest := []) C mX12_240 (kX12_fraction N h_7 (v_8.toInt64) (v_11.toInt64) x2) (Nat.le_of_ble_eq_true rfl) ⟨Nat.zero_le _, Nat.zero_le _⟩ dX12_mean_49 rfl rfl (Nat.le_of_ble_eq_true rfl)) rfl (fun v_13 h_12 => ?_)
        exact z_lreturn C ⟨rfl, rfl⟩ dX12_mean_52
      · refine z_ldc2_w (v := (-9223372036854775808 : Int64)) C dX12_mean_29 (tblG_at 1355 (by decide +kernel) (by decide +kernel)) ?_
        exact z_lreturn C ⟨rfl, rfl⟩ dX12_mean_32
def bX12_plan_67 (N : Nat) (h : AH) (a0 : Nat) (x1 : Int32) (x2 : Int32) (s0 : Int32) : Option (Int32 × AH) :=
  (if s0 = (0) then
  some ((-1 : Int32), h)
  else
  (zgR h a0 12 0).bind fun a_1 =>
  (zald 0 h a_1 (102 : Int32)).bind fun v_2 =>
  (if v_2 = (10 : Int32) then
  some ((-4 : Int32), h)
  else
  (zgR h a0 12 0).bind fun a_3 =>
  (zgR h a0 12 0).bind fun a_4 =>
  (zald 0 h a_4 (102 : Int32)).bind fun v_5 =>
  (zast 0 h a_3 ((103 : Int32) + ((2 : Int32) * v_5)) x1).bind fun h_6 =>
  (zgR h_6 a0 12 0).bind fun a_7 =>
  (zgR h_6 a0 12 0).bind fun a_8 =>
  (zald 0 h_6 a_8 (102 : Int32)).bind fun v_9 =>
  (zast 0 h_6 a_7 ((104 : Int32) + ((2 : Int32) * v_9)) x2).bind fun h_10 =>
  (zgR h_10 a0 12 0).bind fun a_11 =>
  (zald 0 h_10 a_11 (102 : Int32)).bind fun v_12 =>
  (zast 0 h_10 a_11 (102 : Int32) (v_12 + (1 : Int32))).bind fun h_13 =>
  (zgR h_13 a0 12 0).bind fun a_14 =>
  (zald 0 h_13 a_14 (102 : Int32)).bind fun v_15 =>
  some (v_15, h_13)))
theorem tX12_plan_67 {X : zX} {g : zG} (C : zC X g yX12_plan cX12_plan 4 3 0 0 (some .int)) (N : Nat) (h : AH) (a0 : Nat) (x1 : Int32) (x2 : Int32) (s0 : Int32) : ZZ X g 4 (0, 0, 0, 0) (fun v : Int32 => some (.int v)) (bX12_plan_67 N h a0 x1 x2 s0) h 67 [(0, .ref a0), (1, .int x1), (2, .int x2)] [.int s0] := by
  unfold bX12_plan_67
  refine z_istore_n C dX12_plan_67 [(3, .int s0), (0, .ref a0), (1, .int x1), (2, .int x2)] (by decide) rfl ?_
  refine z_iload_n C 0 dX12_plan_68 rfl ?_
  refine z_ifne C 74 dX12_plan_69 rfl ?_ ?_
  · refine z_aload_n C 1 dX12_plan_74 rfl ?_
    refine z_getR C qX12_9 dX12_plan_75 (fun a_1 => ?_)
    refine z_bipush (v := (102 : Int32)) C dX12_plan_78 rfl ?_
    refine z_iaload C dX12_plan_80 (fun v_2 => ?_)
    refine z_bipush (v := (10 : Int32)) C dX12_plan_81 rfl ?_
    refine z_icmpne C 89 dX12_plan_83 rfl ?_ ?_
    · refine z_aload_n C 1 dX12_plan_89 rfl ?_
      refine z_getR C qX12_9 dX12_plan_90 (fun a_3 => ?_)
      refine z_bipush (v := (103 : Int32)) C dX12_plan_93 rfl ?_
      refine z_iconst (v := (2 : Int32)) C dX12_plan_95 rfl ?_
      refine z_aload_n C 1 dX12_plan_96 rfl ?_
      refine z_getR C qX12_9 dX12_plan_97 (fun a_4 => ?_)
      refine z_bipush (v := (102 : Int32)) C dX12_plan_100 rfl ?_
      refine z_iaload C dX12_plan_102 (fun v_5 => ?_)
      refine z_imul C dX12_plan_103 ?_
      refine z_iadd C dX12_plan_104 ?_
      refine z_iload_n C 2 dX12_plan_105 rfl ?_
      refine z_iastore C dX12_plan_106 (fun h_6 => ?_)
      refine z_aload_n C 1 dX12_plan_107 rfl ?_
      refine z_getR C qX12_9 dX12_plan_108 (fun a_7 => ?_)
      refine z_bipush (v := (104 : Int32)) C dX12_plan_111 rfl ?_
      refine z_iconst (v := (2 : Int32)) C dX12_plan_113 rfl ?_
      refine z_aload_n C 1 dX12_plan_114 rfl ?_
      refine z_getR C qX12_9 dX12_plan_115 (fun a_8 => ?_)
      refine z_bipush (v := (102 : Int32)) C dX12_plan_118 rfl ?_
      refine z_iaload C dX12_plan_120 (fun v_9 => ?_)
      refine z_imul C dX12_plan_121 ?_
      refine z_iadd C dX12_plan_122 ?_
      refine z_iload_n C 3 dX12_plan_123 rfl ?_
      refine z_iastore C dX12_plan_124 (fun h_10 => ?_)
      refine z_aload_n C 1 dX12_plan_125 rfl ?_
      refine z_getR C qX12_9 dX12_plan_126 (fun a_11 => ?_)
      refine z_bipush (v := (102 : Int32)) C dX12_plan_129 rfl ?_
      refine z_dup2 C dX12_plan_131 rfl rfl ?_
      refine z_iaload C dX12_plan_132 (fun v_12 => ?_)
      refine z_iconst (v := (1 : Int32)) C dX12_plan_133 rfl ?_
      refine z_iadd C dX12_plan_134 ?_
      refine z_iastore C dX12_plan_135 (fun h_13 => ?_)
      refine z_aload_n C 1 dX12_plan_136 rfl ?_
      refine z_getR C qX12_9 dX12_plan_137 (fun a_14 => ?_)
      refine z_bipush (v := (102 : Int32)) C dX12_plan_140 rfl ?_
      refine z_iaload C dX12_plan_142 (fun v_15 => ?_)
      exact z_ireturn C ⟨rfl, rfl⟩ dX12_plan_143
    · refine z_bipush (v := (-4 : Int32)) C dX12_plan_86 rfl ?_
      exact z_ireturn C ⟨rfl, rfl⟩ dX12_plan_88
  · refine z_iconst (v := (-1 : Int32)) C dX12_plan_72 rfl ?_
    exact z_ireturn C ⟨rfl, rfl⟩ dX12_plan_73
def bX12_plan_62 (N : Nat) (h : AH) (a0 : Nat) (x1 : Int32) (x2 : Int32) : Option (Int32 × AH) :=
  bX12_plan_67 N h a0 x1 x2 (1 : Int32)
theorem tX12_plan_62 {X : zX} {g : zG} (C : zC X g yX12_plan cX12_plan 4 3 0 0 (some .int)) (N : Nat) (h : AH) (a0 : Nat) (x1 : Int32) (x2 : Int32) : ZZ X g 4 (0, 0, 0, 0) (fun v : Int32 => some (.int v)) (bX12_plan_62 N h a0 x1 x2) h 62 [(0, .ref a0), (1, .int x1), (2, .int x2)] [] := by
  unfold bX12_plan_62
  refine z_iconst (v := (1 : Int32)) C dX12_plan_62 rfl ?_
  refine z_goto C 67 dX12_plan_63 rfl ?_
  exact z_lv _ [0, 1, 2] rfl (tX12_plan_67 C N _ a0 x1 x2 (1 : Int32))
def bX12_plan_66 (N : Nat) (h : AH) (a0 : Nat) (x1 : Int32) (x2 : Int32) : Option (Int32 × AH) :=
  bX12_plan_67 N h a0 x1 x2 (0 : Int32)
theorem tX12_plan_66 {X : zX} {g : zG} (C : zC X g yX12_plan cX12_plan 4 3 0 0 (some .int)) (N : Nat) (h : AH) (a0 : Nat) (x1 : Int32) (x2 : Int32) : ZZ X g 4 (0, 0, 0, 0) (fun v : Int32 => some (.int v)) (bX12_plan_66 N h a0 x1 x2) h 66 [(0, .ref a0), (1, .int x1), (2, .int x2)] [] := by
  unfold bX12_plan_66
  refine z_iconst (v := (0 : Int32)) C dX12_plan_66 rfl ?_
  exact z_lv _ [0, 1, 2] rfl (tX12_plan_67 C N _ a0 x1 x2 (0 : Int32))
def bX12_plan_49 (N : Nat) (h : AH) (a0 : Nat) (x1 : Int32) (x2 : Int32) : Option (Int32 × AH) :=
  (if x1 = (2 : Int32) then
  (zis h a0 12).bind fun _ =>
  zcall (fX12_isMaster N h a0 x2) fun v_2 h_1 =>
  (if v_2 = (0) then
  bX12_plan_66 N h_1 a0 x1 x2
  else
  bX12_plan_62 N h_1 a0 x1 x2)
  else
  bX12_plan_66 N h a0 x1 x2)
theorem tX12_plan_49 {X : zX} {g : zG} (C : zC X g yX12_plan cX12_plan 4 3 0 0 (some .int)) (N : Nat) (h : AH) (a0 : Nat) (x1 : Int32) (x2 : Int32) : ZZ X g 4 (0, 0, 0, 0) (fun v : Int32 => some (.int v)) (bX12_plan_49 N h a0 x1 x2) h 49 [(0, .ref a0), (1, .int x1), (2, .int x2)] [] := by
  unfold bX12_plan_49
  refine z_iload_n C 1 dX12_plan_49 rfl ?_
  refine z_iconst (v := (2 : Int32)) C dX12_plan_50 rfl ?_
  refine z_icmpne C 66 dX12_plan_51 rfl ?_ ?_
  · exact z_lv _ [0, 1, 2] rfl (tX12_plan_66 C N _ a0 x1 x2)
  · refine z_aload_n C 0 dX12_plan_54 rfl ?_
    refine z_iload_n C 2 dX12_plan_55 rfl ?_
    refine z_bind (fun _ q_3 => ?_)
    refine z_calli (z_runV (As := [.int x2]) (rest := []) C mX12_80 (kX12_isMaster N h a0 x2) q_3 (Nat.le_of_ble_eq_true rfl) ⟨Nat.zero_le _, Nat.zero_le _⟩ dX12_plan_56 rfl rfl (Nat.le_of_ble_eq_true rfl)) rfl (fun v_2 h_1 => ?_)
    refine z_ifeq C 66 dX12_plan_59 rfl ?_ ?_
    · exact z_lv _ [0, 1, 2] rfl (tX12_plan_66 C N _ a0 x1 x2)
    · exact z_lv _ [0, 1, 2] rfl (tX12_plan_62 C N _ a0 x1 x2)
def fX12_plan (N : Nat) (h : AH) (a0 : Nat) (x1 : Int32) (x2 : Int32) : Option (Int32 × AH) :=
  (if x1 = (-1 : Int32) then
  (zgR h a0 12 0).bind fun a_6 =>
  (zast 0 h a_6 (102 : Int32) (0 : Int32)).bind fun h_7 =>
  some ((0 : Int32), h_7)
  else
  (if x1 = (0) then
  bX12_plan_62 N h a0 x1 x2
  else
  (if x1 = (1 : Int32) then
  (if x2 < (0) then
  bX12_plan_49 N h a0 x1 x2
  else
  (zis h a0 12).bind fun _ =>
  zcall (fX12_isMaster N h a0 (x2 / (10 : Int32))) fun v_2 h_1 =>
  (if v_2 = (0) then
  bX12_plan_49 N h_1 a0 x1 x2
  else
  zcall (fX12_isFact N h_1 (x2 - x2 / (10 : Int32) * (10 : Int32))) fun v_5 h_4 =>
  (if v_5 = (0) then
  bX12_plan_49 N h_4 a0 x1 x2
  else
  bX12_plan_62 N h_4 a0 x1 x2)))
  else
  bX12_plan_49 N h a0 x1 x2)))
theorem kX12_plan {l : Launch} {g : zG} (N : Nat) (h : AH) (a0 : Nat) (x1 : Int32) (x2 : Int32) : zM l g yX12_plan cX12_plan 4 (some .int) (3) 0 0 (fun v : Int32 => some (.int v)) (fX12_plan N h a0 x1 x2) h [.ref a0, .int x1, .int x2] := by
  refine zM.of (lv0 := [(0, .ref a0), (1, .int x1), (2, .int x2)]) (by decide) (Nat.le_of_ble_eq_true rfl) rfl (fun X hX C => ?_)
  subst hX
  unfold fX12_plan
  refine z_iload_n C 1 dX12_plan_0 rfl ?_
  refine z_iconst (v := (-1 : Int32)) C dX12_plan_1 rfl ?_
  refine z_icmpne C 15 dX12_plan_2 rfl ?_ ?_
  · refine z_iload_n C 1 dX12_plan_15 rfl ?_
    refine z_ifeq C 62 dX12_plan_16 rfl ?_ ?_
    · exact z_lv _ [0, 1, 2] rfl (tX12_plan_62 C N _ a0 x1 x2)
    · refine z_iload_n C 1 dX12_plan_19 rfl ?_
      refine z_iconst (v := (1 : Int32)) C dX12_plan_20 rfl ?_
      refine z_icmpne C 49 dX12_plan_21 rfl ?_ ?_
      · exact z_lv _ [0, 1, 2] rfl (tX12_plan_49 C N _ a0 x1 x2)
      · refine z_iload_n C 2 dX12_plan_24 rfl ?_
        refine z_iflt C 49 dX12_plan_25 rfl ?_ ?_
        · exact z_lv _ [0, 1, 2] rfl (tX12_plan_49 C N _ a0 x1 x2)
        · refine z_aload_n C 0 dX12_plan_28 rfl ?_
          refine z_iload_n C 2 dX12_plan_29 rfl ?_
          refine z_bipush (v := (10 : Int32)) C dX12_plan_30 rfl ?_
          refine z_idiv C dX12_plan_32 (by decide) ?_
          refine z_bind (fun _ q_3 => ?_)
          refine z_calli (z_runV (As := [.int (x2 / (10 : Int32))]) (rest := []) C mX12_80 (kX12_isMaster N h a0 (x2 / (10 : Int32))) q_3 (Nat.le_of_ble_eq_true rfl) ⟨Nat.zero_le _, Nat.zero_le _⟩ dX12_plan_33 rfl rfl (Nat.le_of_ble_eq_true rfl)) rfl (fun v_2 h_1 => ?_)
          refine z_ifeq C 49 dX12_plan_36 rfl ?_ ?_
          · exact z_lv _ [0, 1, 2] rfl (tX12_plan_49 C N _ a0 x1 x2)
          · refine z_iload_n C 2 dX12_plan_39 rfl ?_
            refine z_bipush (v := (10 : Int32)) C dX12_plan_40 rfl ?_
            refine z_irem C dX12_plan_42 (by decide) ?_
            refine z_calli (z_runS (As := [.int (x2 - x2 / (10 : Int32) * (10 : Int32))]) (rest := []) C mX12_92 (kX12_isFact N h_1 (x2 - x2 / (10 : Int32) * (10 : Int32))) (Nat.le_of_ble_eq_true rfl) ⟨Nat.zero_le _, Nat.zero_le _⟩ dX12_plan_43 rfl rfl (Nat.le_of_ble_eq_true rfl)) rfl (fun v_5 h_4 => ?_)
            refine z_ifne C 62 dX12_plan_46 rfl ?_ ?_
            · exact z_lv _ [0, 1, 2] rfl (tX12_plan_62 C N _ a0 x1 x2)
            · exact z_lv _ [0, 1, 2] rfl (tX12_plan_49 C N _ a0 x1 x2)
  · refine z_aload_n C 0 dX12_plan_5 rfl ?_
    refine z_getR C qX12_9 dX12_plan_6 (fun a_6 => ?_)
    refine z_bipush (v := (102 : Int32)) C dX12_plan_9 rfl ?_
    refine z_iconst (v := (0 : Int32)) C dX12_plan_11 rfl ?_
    refine z_iastore C dX12_plan_12 (fun h_7 => ?_)
    refine z_iconst (v := (0 : Int32)) C dX12_plan_13 rfl ?_
    exact z_ireturn C ⟨rfl, rfl⟩ dX12_plan_14
def bX12_ends_24 (N : Nat) (r24 : AH → Nat → Int32 → Int32 → Option (Int32 × AH)) (h : AH) (a0 : Nat) (x1 : Int32) (x2 : Int32) : Option (Int32 × AH) :=
  (zgR h a0 12 0).bind fun a_1 =>
  (zald 0 h a_1 (102 : Int32)).bind fun v_2 =>
  (if v_2 ≤ x2 then
  (zis h a0 12).bind fun _ =>
  zcall (fX12_tells N h a0 ((1 : Int32) - x1)) fun v_4 h_3 =>
  (zgR h_3 a0 12 1).bind fun a_6 =>
  (zgR h_3 a0 12 0).bind fun a_7 =>
  zcall (fX12_move N h_3 a_6 a_7) fun _ h_8 =>
  some (v_4, h_8)
  else
  (zgR h a0 12 0).bind fun a_9 =>
  (zald 0 h a_9 ((103 : Int32) + ((2 : Int32) * x2))).bind fun v_10 =>
  (zgR h a0 12 0).bind fun a_11 =>
  (zald 0 h a_11 ((104 : Int32) + ((2 : Int32) * x2))).bind fun v_12 =>
  (if v_10 = (0) then
  (zis h a0 12).bind fun _ =>
  zcall (fX12_night N h a0) fun _ h_18 =>
  r24 h_18 a0 x1 (x2 + (1 : Int32))
  else
  (if v_10 = (1 : Int32) then
  (zgR h a0 12 0).bind fun a_15 =>
  (zald 0 h a_15 (((7 : Int32) * (v_12 / (10 : Int32))) + (2 : Int32))).bind fun v_16 =>
  (zast 0 h a_15 (((7 : Int32) * (v_12 / (10 : Int32))) + (2 : Int32)) (v_16 ||| ((1 : Int32) <<< ((v_12 - v_12 / (10 : Int32) * (10 : Int32)) &&& 31)))).bind fun h_17 =>
  r24 h_17 a0 x1 (x2 + (1 : Int32))
  else
  (zgR h a0 12 0).bind fun a_13 =>
  (zast 0 h a_13 (((7 : Int32) * v_12) + (2 : Int32)) (0 : Int32)).bind fun h_14 =>
  r24 h_14 a0 x1 (x2 + (1 : Int32)))))
theorem tX12_ends_24 {X : zX} {g : zG} (C : zC X g yX12_ends cX12_ends 5 32 0 0 (some .int)) (N : Nat) (n : Nat) : ∀ (h : AH) (a0 : Nat) (x1 : Int32) (x2 : Int32), ZZ X g 5 (0, 0, 0, 0) (fun v : Int32 => some (.int v)) (zfix (fun _ _ _ _ => none) (bX12_ends_24 N) n h a0 x1 x2) h 24 [(0, .ref a0), (1, .int x1), (2, .int x2)] [] := by
  induction n with
  | zero => intro h a0 x1 x2; exact z_none
  | succ n hr24 =>
    intro h a0 x1 x2
    show ZZ X g 5 (0, 0, 0, 0) _ (bX12_ends_24 N (zfix (fun _ _ _ _ => none) (bX12_ends_24 N) n) h a0 x1 x2) h 24 _ _
    unfold bX12_ends_24
    refine z_iload_n C 2 dX12_ends_24 rfl ?_
    refine z_aload_n C 0 dX12_ends_25 rfl ?_
    refine z_getR C qX12_9 dX12_ends_26 (fun a_1 => ?_)
    refine z_bipush (v := (102 : Int32)) C dX12_ends_29 rfl ?_
    refine z_iaload C dX12_ends_31 (fun v_2 => ?_)
    refine z_icmpge C 123 dX12_ends_32 rfl ?_ ?_
    · refine z_aload_n C 0 dX12_ends_123 rfl ?_
      refine z_iconst (v := (1 : Int32)) C dX12_ends_124 rfl ?_
      refine z_iload_n C 1 dX12_ends_125 rfl ?_
      refine z_isub C dX12_ends_126 ?_
      refine z_bind (fun _ q_5 => ?_)
      refine z_calli (z_runV (As := [.int ((1 : Int32) - x1)]) (rest := []) C mX12_232 (kX12_tells N h a0 ((1 : Int32) - x1)) q_5 (Nat.le_of_ble_eq_true rfl) ⟨Nat.zero_le _, Nat.zero_le _⟩ dX12_ends_127 rfl rfl (Nat.le_of_ble_eq_true rfl)) rfl (fun v_4 h_3 => ?_)
      refine z_istore_n C dX12_ends_130 [(2, .int v_4), (0, .ref a0), (1, .int x1)] (by decide) rfl ?_
      refine z_aload_n C 1 dX12_ends_131 rfl ?_
      refine z_getR C qX12_15 dX12_ends_132 (fun a_6 => ?_)
      refine z_aload_n C 1 dX12_ends_135 rfl ?_
      refine z_getR C qX12_9 dX12_ends_136 (fun a_7 => ?_)
      refine z_callv (z_runS (As := [.ref a_6, .ref a_7]) (rest := []) C mX12_72 (kX12_move N h_3 a_6 a_7) (Nat.le_of_ble_eq_true rfl) ⟨Nat.zero_le _, Nat.zero_le _⟩ dX12_ends_139 rfl rfl (Nat.le_of_ble_eq_true rfl)) rfl (fun _ h_8 => ?_)
      refine z_iload_n C 0 dX12_ends_142 rfl ?_
      exact z_ireturn C ⟨rfl, rfl⟩ dX12_ends_143
    · refine z_aload_n C 0 dX12_ends_35 rfl ?_
      refine z_getR C qX12_9 dX12_ends_36 (fun a_9 => ?_)
      refine z_bipush (v := (103 : Int32)) C dX12_ends_39 rfl ?_
      refine z_iconst (v := (2 : Int32)) C dX12_ends_41 rfl ?_
      refine z_iload_n C 2 dX12_ends_42 rfl ?_
      refine z_imul C dX12_ends_43 ?_
      refine z_iadd C dX12_ends_44 ?_
      refine z_iaload C dX12_ends_45 (fun v_10 => ?_)
      refine z_istore_n C dX12_ends_46 [(3, .int v_10), (0, .ref a0), (1, .int x1), (2, .int x2)] (by decide) rfl ?_
      refine z_aload_n C 1 dX12_ends_47 rfl ?_
      refine z_getR C qX12_9 dX12_ends_48 (fun a_11 => ?_)
      refine z_bipush (v := (104 : Int32)) C dX12_ends_51 rfl ?_
      refine z_iconst (v := (2 : Int32)) C dX12_ends_53 rfl ?_
      refine z_iload_n C 3 dX12_ends_54 rfl ?_
      refine z_imul C dX12_ends_55 ?_
      refine z_iadd C dX12_ends_56 ?_
      refine z_iaload C dX12_ends_57 (fun v_12 => ?_)
      refine z_istore C dX12_ends_58 [(4, .int v_12), (3, .int v_10), (0, .ref a0), (1, .int x1), (2, .int x2)] (by decide) rfl ?_
      refine z_iload_n C 1 dX12_ends_60 rfl ?_
      refine z_ifne C 71 dX12_ends_61 rfl ?_ ?_
      · refine z_iload_n C 1 dX12_ends_71 rfl ?_
        refine z_iconst (v := (1 : Int32)) C dX12_ends_72 rfl ?_
        refine z_icmpne C 104 dX12_ends_73 rfl ?_ ?_
        · refine z_aload_n C 2 dX12_ends_104 rfl ?_
          refine z_getR C qX12_9 dX12_ends_105 (fun a_13 => ?_)
          refine z_bipush (v := (7 : Int32)) C dX12_ends_108 rfl ?_
          refine z_iload C 0 dX12_ends_110 rfl ?_
          refine z_imul C dX12_ends_112 ?_
          refine z_iconst (v := (2 : Int32)) C dX12_ends_113 rfl ?_
          refine z_iadd C dX12_ends_114 ?_
          refine z_iconst (v := (0 : Int32)) C dX12_ends_115 rfl ?_
          refine z_iastore C dX12_ends_116 (fun h_14 => ?_)
          refine z_iinc (v := x2 + (1 : Int32)) C 4 dX12_ends_117 [(2, .int (x2 + (1 : Int32))), (4, .int v_12), (3, .int v_10), (0, .ref a0), (1, .int x1)] rfl rfl (by decide) rfl ?_
          refine z_goto C 24 dX12_ends_120 rfl ?_
          exact z_lv _ [3, 4, 0] rfl (hr24 _ a0 x1 (x2 + (1 : Int32)))
        · refine z_aload_n C 2 dX12_ends_76 rfl ?_
          refine z_getR C qX12_9 dX12_ends_77 (fun a_15 => ?_)
          refine z_bipush (v := (7 : Int32)) C dX12_ends_80 rfl ?_
          refine z_iload C 0 dX12_ends_82 rfl ?_
          refine z_bipush (v := (10 : Int32)) C dX12_ends_84 rfl ?_
          refine z_idiv C dX12_ends_86 (by decide) ?_
          refine z_imul C dX12_ends_87 ?_
          refine z_iconst (v := (2 : Int32)) C dX12_ends_88 rfl ?_
          refine z_iadd C dX12_ends_89 ?_
          refine z_dup2 C dX12_ends_90 rfl rfl ?_
          refine z_iaload C dX12_ends_91 (fun v_16 => ?_)
          refine z_iconst (v := (1 : Int32)) C dX12_ends_92 rfl ?_
          refine z_iload C 0 dX12_ends_93 rfl ?_
          refine z_bipush (v := (10 : Int32)) C dX12_ends_95 rfl ?_
          refine z_irem C dX12_ends_97 (by decide) ?_
          refine z_ishl C dX12_ends_98 ?_
          refine z_ior C dX12_ends_99 ?_
          refine z_iastore C dX12_ends_100 (fun h_17 => ?_)
          refine z_goto C 117 dX12_ends_101 rfl ?_
          refine z_iinc (v := x2 + (1 : Int32)) C 4 dX12_ends_117 [(2, .int (x2 + (1 : Int32))), (4, .int v_12), (3, .int v_10), (0, .ref a0), (1, .int x1)] rfl rfl (by decide) rfl ?_
          refine z_goto C 24 dX12_ends_120 rfl ?_
          exact z_lv _ [3, 4, 0] rfl (hr24 _ a0 x1 (x2 + (1 : Int32)))
      · refine z_aload_n C 2 dX12_ends_64 rfl ?_
        refine z_bind (fun _ q_19 => ?_)
        refine z_callv (z_runV (As := []) (rest := []) C mX12_195 (kX12_night N h a0) q_19 (Nat.le_of_ble_eq_true rfl) ⟨Nat.zero_le _, Nat.zero_le _⟩ dX12_ends_65 rfl rfl (Nat.le_of_ble_eq_true rfl)) rfl (fun _ h_18 => ?_)
        refine z_goto C 117 dX12_ends_68 rfl ?_
        refine z_iinc (v := x2 + (1 : Int32)) C 4 dX12_ends_117 [(2, .int (x2 + (1 : Int32))), (4, .int v_12), (3, .int v_10), (0, .ref a0), (1, .int x1)] rfl rfl (by decide) rfl ?_
        refine z_goto C 24 dX12_ends_120 rfl ?_
        exact z_lv _ [3, 4, 0] rfl (hr24 _ a0 x1 (x2 + (1 : Int32)))
def fX12_ends (N : Nat) (h : AH) (a0 : Nat) (x1 : Int32) : Option (Int32 × AH) :=
  zcall (fX12_isIn N h x1 (0 : Int32) (1 : Int32)) fun v_2 h_1 =>
  (if v_2 = (0) then
  some ((-1 : Int32), h_1)
  else
  (zgR h_1 a0 12 0).bind fun a_3 =>
  (zgR h_1 a0 12 1).bind fun a_4 =>
  zcall (fX12_move N h_1 a_3 a_4) fun _ h_5 =>
  zfix (fun _ _ _ _ => none) (bX12_ends_24 N) N h_5 a0 x1 (0 : Int32))
theorem kX12_ends {l : Launch} {g : zG} (N : Nat) (h : AH) (a0 : Nat) (x1 : Int32) : zM l g yX12_ends cX12_ends 5 (some .int) (32) 0 0 (fun v : Int32 => some (.int v)) (fX12_ends N h a0 x1) h [.ref a0, .int x1] := by
  refine zM.of (lv0 := [(0, .ref a0), (1, .int x1)]) (by decide) (Nat.le_of_ble_eq_true rfl) rfl (fun X hX C => ?_)
  subst hX
  unfold fX12_ends
  refine z_iload_n C 1 dX12_ends_0 rfl ?_
  refine z_iconst (v := (0 : Int32)) C dX12_ends_1 rfl ?_
  refine z_iconst (v := (1 : Int32)) C dX12_ends_2 rfl ?_
  refine z_calli (z_runS (As := [.int x1, .int (0 : Int32), .int (1 : Int32)]) (rest := []) C mX12_76 (kX12_isIn N h x1 (0 : Int32) (1 : Int32)) (Nat.le_of_ble_eq_true rfl) ⟨Nat.zero_le _, Nat.zero_le _⟩ dX12_ends_3 rfl rfl (Nat.le_of_ble_eq_true rfl)) rfl (fun v_2 h_1 => ?_)
  refine z_ifne C 11 dX12_ends_6 rfl ?_ ?_
  · refine z_aload_n C 0 dX12_ends_11 rfl ?_
    refine z_getR C qX12_9 dX12_ends_12 (fun a_3 => ?_)
    refine z_aload_n C 0 dX12_ends_15 rfl ?_
    refine z_getR C qX12_15 dX12_ends_16 (fun a_4 => ?_)
    refine z_callv (z_runS (As := [.ref a_3, .ref a_4]) (rest := []) C mX12_72 (kX12_move N h_1 a_3 a_4) (Nat.le_of_ble_eq_true rfl) ⟨Nat.zero_le _, Nat.zero_le _⟩ dX12_ends_19 rfl rfl (Nat.le_of_ble_eq_true rfl)) rfl (fun _ h_5 => ?_)
    refine z_iconst (v := (0 : Int32)) C dX12_ends_22 rfl ?_
    refine z_istore_n C dX12_ends_23 [(2, .int (0 : Int32)), (0, .ref a0), (1, .int x1)] (by decide) rfl ?_
    exact z_lv _ [1, 2, 0] rfl (tX12_ends_24 C N N _ a0 x1 (0 : Int32))
  · refine z_iconst (v := (-1 : Int32)) C dX12_ends_9 rfl ?_
    exact z_ireturn C ⟨rfl, rfl⟩ dX12_ends_10
def fX12_book (N : Nat) (h : AH) (a0 : Nat) (x1 : Int32) (x2 : Int32) : Option (Int32 × AH) :=
  (if x1 = (-1 : Int32) then
  (zgR h a0 12 0).bind fun a_21 =>
  (zast 0 h a_21 (123 : Int32) (0 : Int32)).bind fun h_22 =>
  some ((0 : Int32), h_22)
  else
  (zis h a0 12).bind fun _ =>
  zcall (fX12_isMaster N h a0 x1) fun v_2 h_1 =>
  (if v_2 = (0) then
  some ((-1 : Int32), h_1)
  else
  zcall (fX12_isSet N h_1 x2) fun v_5 h_4 =>
  (if v_5 = (0) then
  some ((-2 : Int32), h_4)
  else
  (zgR h_4 a0 12 0).bind fun a_6 =>
  (zald 0 h_4 a_6 (123 : Int32)).bind fun v_7 =>
  (if v_7 = (8 : Int32) then
  some ((-4 : Int32), h_4)
  else
  (zgR h_4 a0 12 0).bind fun a_8 =>
  (zgR h_4 a0 12 0).bind fun a_9 =>
  (zald 0 h_4 a_9 (123 : Int32)).bind fun v_10 =>
  (zast 0 h_4 a_8 ((124 : Int32) + ((2 : Int32) * v_10)) x1).bind fun h_11 =>
  (zgR h_11 a0 12 0).bind fun a_12 =>
  (zgR h_11 a0 12 0).bind fun a_13 =>
  (zald 0 h_11 a_13 (123 : Int32)).bind fun v_14 =>
  (zast 0 h_11 a_12 ((125 : Int32) + ((2 : Int32) * v_14)) x2).bind fun h_15 =>
  (zgR h_15 a0 12 0).bind fun a_16 =>
  (zald 0 h_15 a_16 (123 : Int32)).bind fun v_17 =>
  (zast 0 h_15 a_16 (123 : Int32) (v_17 + (1 : Int32))).bind fun h_18 =>
  (zgR h_18 a0 12 0).bind fun a_19 =>
  (zald 0 h_18 a_19 (123 : Int32)).bind fun v_20 =>
  some (v_20, h_18)))))
theorem kX12_book {l : Launch} {g : zG} (N : Nat) (h : AH) (a0 : Nat) (x1 : Int32) (x2 : Int32) : zM l g yX12_book cX12_book 3 (some .int) (3) 0 0 (fun v : Int32 => some (.int v)) (fX12_book N h a0 x1 x2) h [.ref a0, .int x1, .int x2] := by
  refine zM.of (lv0 := [(0, .ref a0), (1, .int x1), (2, .int x2)]) (by decide) (Nat.le_of_ble_eq_true rfl) rfl (fun X hX C => ?_)
  subst hX
  unfold fX12_book
  refine z_iload_n C 1 dX12_book_0 rfl ?_
  refine z_iconst (v := (-1 : Int32)) C dX12_book_1 rfl ?_
  refine z_icmpne C 15 dX12_book_2 rfl ?_ ?_
  · refine z_aload_n C 0 dX12_book_15 rfl ?_
    refine z_iload_n C 1 dX12_book_16 rfl ?_
    refine z_bind (fun _ q_3 => ?_)
    refine z_calli (z_runV (As := [.int x1]) (rest := []) C mX12_80 (kX12_isMaster N h a0 x1) q_3 (Nat.le_of_ble_eq_true rfl) ⟨Nat.zero_le _, Nat.zero_le _⟩ dX12_book_17 rfl rfl (Nat.le_of_ble_eq_true rfl)) rfl (fun v_2 h_1 => ?_)
    refine z_ifne C 25 dX12_book_20 rfl ?_ ?_
    · refine z_iload_n C 2 dX12_book_25 rfl ?_
      refine z_calli (z_runS (As := [.int x2]) (rest := []) C mX12_102 (kX12_isSet N h_1 x2) (Nat.le_of_ble_eq_true rfl) ⟨Nat.zero_le _, Nat.zero_le _⟩ dX12_book_26 rfl rfl (Nat.le_of_ble_eq_true rfl)) rfl (fun v_5 h_4 => ?_)
      refine z_ifne C 35 dX12_book_29 rfl ?_ ?_
      · refine z_aload_n C 0 dX12_book_35 rfl ?_
        refine z_getR C qX12_9 dX12_book_36 (fun a_6 => ?_)
        refine z_bipush (v := (123 : Int32)) C dX12_book_39 rfl ?_
        refine z_iaload C dX12_book_41 (fun v_7 => ?_)
        refine z_bipush (v := (8 : Int32)) C dX12_book_42 rfl ?_
        refine z_icmpne C 50 dX12_book_44 rfl ?_ ?_
        · refine z_aload_n C 0 dX12_book_50 rfl ?_
          refine z_getR C qX12_9 dX12_book_51 (fun a_8 => ?_)
          refine z_bipush (v := (124 : Int32)) C dX12_book_54 rfl ?_
          refine z_iconst (v := (2 : Int32)) C dX12_book_56 rfl ?_
          refine z_aload_n C 0 dX12_book_57 rfl ?_
          refine z_getR C qX12_9 dX12_book_58 (fun a_9 => ?_)
          refine z_bipush (v := (123 : Int32)) C dX12_book_61 rfl ?_
          refine z_iaload C dX12_book_63 (fun v_10 => ?_)
          refine z_imul C dX12_book_64 ?_
          refine z_iadd C dX12_book_65 ?_
          refine z_iload_n C 1 dX12_book_66 rfl ?_
          refine z_iastore C dX12_book_67 (fun h_11 => ?_)
          refine z_aload_n C 0 dX12_book_68 rfl ?_
          refine z_getR C qX12_9 dX12_book_69 (fun a_12 => ?_)
          refine z_bipush (v := (125 : Int32)) C dX12_book_72 rfl ?_
          refine z_iconst (v := (2 : Int32)) C dX12_book_74 rfl ?_
          refine z_aload_n C 0 dX12_book_75 rfl ?_
          refine z_getR C qX12_9 dX12_book_76 (fun a_13 => ?_)
          refine z_bipush (v := (123 : Int32)) C dX12_book_79 rfl ?_
          refine z_iaload C dX12_book_81 (fun v_14 => ?_)
          refine z_imul C dX12_book_82 ?_
          refine z_iadd C dX12_book_83 ?_
          refine z_iload_n C 2 dX12_book_84 rfl ?_
          refine z_iastore C dX12_book_85 (fun h_15 => ?_)
          refine z_aload_n C 0 dX12_book_86 rfl ?_
          refine z_getR C qX12_9 dX12_book_87 (fun a_16 => ?_)
          refine z_bipush (v := (123 : Int32)) C dX12_book_90 rfl ?_
          refine z_dup2 C dX12_book_92 rfl rfl ?_
          refine z_iaload C dX12_book_93 (fun v_17 => ?_)
          refine z_iconst (v := (1 : Int32)) C dX12_book_94 rfl ?_
          refine z_iadd C dX12_book_95 ?_
          refine z_iastore C dX12_book_96 (fun h_18 => ?_)
          refine z_aload_n C 0 dX12_book_97 rfl ?_
          refine z_getR C qX12_9 dX12_book_98 (fun a_19 => ?_)
          refine z_bipush (v := (123 : Int32)) C dX12_book_101 rfl ?_
          refine z_iaload C dX12_book_103 (fun v_20 => ?_)
          exact z_ireturn C ⟨rfl, rfl⟩ dX12_book_104
        · refine z_bipush (v := (-4 : Int32)) C dX12_book_47 rfl ?_
          exact z_ireturn C ⟨rfl, rfl⟩ dX12_book_49
      · refine z_bipush (v := (-2 : Int32)) C dX12_book_32 rfl ?_
        exact z_ireturn C ⟨rfl, rfl⟩ dX12_book_34
    · refine z_iconst (v := (-1 : Int32)) C dX12_book_23 rfl ?_
      exact z_ireturn C ⟨rfl, rfl⟩ dX12_book_24
  · refine z_aload_n C 0 dX12_book_5 rfl ?_
    refine z_getR C qX12_9 dX12_book_6 (fun a_21 => ?_)
    refine z_bipush (v := (123 : Int32)) C dX12_book_9 rfl ?_
    refine z_iconst (v := (0 : Int32)) C dX12_book_11 rfl ?_
    refine z_iastore C dX12_book_12 (fun h_22 => ?_)
    refine z_iconst (v := (0 : Int32)) C dX12_book_13 rfl ?_
    exact z_ireturn C ⟨rfl, rfl⟩ dX12_book_14
def bX12_looked_2 (N : Nat) (r2 : AH → Nat → Int32 → Option (Int32 × AH)) (h : AH) (a0 : Nat) (x1 : Int32) : Option (Int32 × AH) :=
  (zgR h a0 12 0).bind fun a_1 =>
  (zald 0 h a_1 (123 : Int32)).bind fun v_2 =>
  (if v_2 ≤ x1 then
  some ((-5 : Int32), h)
  else
  (zgR h a0 12 0).bind fun a_3 =>
  (zald 0 h a_3 ((124 : Int32) + ((2 : Int32) * x1))).bind fun v_4 =>
  (zis h a0 12).bind fun _ =>
  zcall (fX12_mindOf N h a0 v_4) fun v_6 h_5 =>
  (zgR h_5 a0 12 0).bind fun a_8 =>
  (zald 0 h_5 a_8 ((125 : Int32) + ((2 : Int32) * x1))).bind fun v_9 =>
  (if v_6 = v_9 then
  r2 h_5 a0 (x1 + (1 : Int32))
  else
  some (x1, h_5)))
theorem tX12_looked_2 {X : zX} {g : zG} (C : zC X g yX12_looked cX12_looked 2 2 0 0 (some .int)) (N : Nat) (n : Nat) : ∀ (h : AH) (a0 : Nat) (x1 : Int32), ZZ X g 2 (0, 0, 0, 0) (fun v : Int32 => some (.int v)) (zfix (fun _ _ _ => none) (bX12_looked_2 N) n h a0 x1) h 2 [(0, .ref a0), (1, .int x1)] [] := by
  induction n with
  | zero => intro h a0 x1; exact z_none
  | succ n hr2 =>
    intro h a0 x1
    show ZZ X g 2 (0, 0, 0, 0) _ (bX12_looked_2 N (zfix (fun _ _ _ => none) (bX12_looked_2 N) n) h a0 x1) h 2 _ _
    unfold bX12_looked_2
    refine z_iload_n C 1 dX12_looked_2 rfl ?_
    refine z_aload_n C 0 dX12_looked_3 rfl ?_
    refine z_getR C qX12_9 dX12_looked_4 (fun a_1 => ?_)
    refine z_bipush (v := (123 : Int32)) C dX12_looked_7 rfl ?_
    refine z_iaload C dX12_looked_9 (fun v_2 => ?_)
    refine z_icmpge C 50 dX12_looked_10 rfl ?_ ?_
    · refine z_bipush (v := (-5 : Int32)) C dX12_looked_50 rfl ?_
      exact z_ireturn C ⟨rfl, rfl⟩ dX12_looked_52
    · refine z_aload_n C 0 dX12_looked_13 rfl ?_
      refine z_aload_n C 0 dX12_looked_14 rfl ?_
      refine z_getR C qX12_9 dX12_looked_15 (fun a_3 => ?_)
      refine z_bipush (v := (124 : Int32)) C dX12_looked_18 rfl ?_
      refine z_iconst (v := (2 : Int32)) C dX12_looked_20 rfl ?_
      refine z_iload_n C 1 dX12_looked_21 rfl ?_
      refine z_imul C dX12_looked_22 ?_
      refine z_iadd C dX12_looked_23 ?_
      refine z_iaload C dX12_looked_24 (fun v_4 => ?_)
      refine z_bind (fun _ q_7 => ?_)
      refine z_calli (z_runV (As := [.int v_4]) (rest := []) C mX12_99 (kX12_mindOf N h a0 v_4) q_7 (Nat.le_of_ble_eq_true rfl) ⟨Nat.zero_le _, Nat.zero_le _⟩ dX12_looked_25 rfl rfl (Nat.le_of_ble_eq_true rfl)) rfl (fun v_6 h_5 => ?_)
      refine z_aload_n C 0 dX12_looked_28 rfl ?_
      refine z_getR C qX12_9 dX12_looked_29 (fun a_8 => ?_)
      refine z_bipush (v := (125 : Int32)) C dX12_looked_32 rfl ?_
      refine z_iconst (v := (2 : Int32)) C dX12_looked_34 rfl ?_
      refine z_iload_n C 1 dX12_looked_35 rfl ?_
      refine z_imul C dX12_looked_36 ?_
      refine z_iadd C dX12_looked_37 ?_
      refine z_iaload C dX12_looked_38 (fun v_9 => ?_)
      refine z_icmpeq C 44 dX12_looked_39 rfl ?_ ?_
      · refine z_iinc (v := x1 + (1 : Int32)) C 1 dX12_looked_44 [(1, .int (x1 + (1 : Int32))), (0, .ref a0)] rfl rfl (by decide) rfl ?_
        refine z_goto C 2 dX12_looked_47 rfl ?_
        exact z_lv _ [1, 0] rfl (hr2 _ a0 (x1 + (1 : Int32)))
      · refine z_iload_n C 1 dX12_looked_42 rfl ?_
        exact z_ireturn C ⟨rfl, rfl⟩ dX12_looked_43
def fX12_looked (N : Nat) (h : AH) (a0 : Nat) : Option (Int32 × AH) :=
  zfix (fun _ _ _ => none) (bX12_looked_2 N) N h a0 (0 : Int32)
theorem kX12_looked {l : Launch} {g : zG} (N : Nat) (h : AH) (a0 : Nat) : zM l g yX12_looked cX12_looked 2 (some .int) (2) 0 0 (fun v : Int32 => some (.int v)) (fX12_looked N h a0) h [.ref a0] := by
  refine zM.of (lv0 := [(0, .ref a0)]) (by decide) (Nat.le_of_ble_eq_true rfl) rfl (fun X hX C => ?_)
  subst hX
  unfold fX12_looked
  refine z_iconst (v := (0 : Int32)) C dX12_looked_0 rfl ?_
  refine z_istore_n C dX12_looked_1 [(1, .int (0 : Int32)), (0, .ref a0)] (by decide) rfl ?_
  exact z_lv _ [1, 0] rfl (tX12_looked_2 C N N _ a0 (0 : Int32))
def bX12_body_19 (N : Nat) (h : AH) (a0 : Nat) (x1 : Int32) : Option (Int32 × AH) :=
  (zgI h a0 12 23).bind fun v_1 =>
  (zput h a0 12 23 (.int (v_1 + (1 : Int32)))).bind fun h_2 =>
  some (x1, h_2)
theorem tX12_body_19 {X : zX} {g : zG} (C : zC X g yX12_body cX12_body 2 1 0 0 (some .int)) (N : Nat) (h : AH) (a0 : Nat) (x1 : Int32) : ZZ X g 2 (0, 0, 0, 0) (fun v : Int32 => some (.int v)) (bX12_body_19 N h a0 x1) h 19 [(0, .ref a0), (1, .int x1)] [] := by
  unfold bX12_body_19
  refine z_aload_n C 0 dX12_body_19 rfl ?_
  refine z_dup C dX12_body_20 rfl ?_
  refine z_getI C qX12_247 dX12_body_21 (fun v_1 => ?_)
  refine z_iconst (v := (1 : Int32)) C dX12_body_24 rfl ?_
  refine z_iadd C dX12_body_25 ?_
  refine z_putI C pX12_247 dX12_body_26 (fun h_2 => ?_)
  refine z_iload_n C 1 dX12_body_29 rfl ?_
  exact z_ireturn C ⟨rfl, rfl⟩ dX12_body_30
def fX12_body (N : Nat) (h : AH) (a0 : Nat) (x1 : Int32) : Option (Int32 × AH) :=
  (zgI h a0 12 23).bind fun v_1 =>
  (if (20 : Int32) ≤ v_1 then
  bX12_body_19 N h a0 x1
  else
  (zgR h a0 12 22).bind fun a_2 =>
  (zgI h a0 12 23).bind fun v_3 =>
  (zast 0 h a_2 v_3 x1).bind fun h_4 =>
  bX12_body_19 N h_4 a0 x1)
theorem kX12_body {l : Launch} {g : zG} (N : Nat) (h : AH) (a0 : Nat) (x1 : Int32) : zM l g yX12_body cX12_body 2 (some .int) (1) 0 0 (fun v : Int32 => some (.int v)) (fX12_body N h a0 x1) h [.ref a0, .int x1] := by
  refine zM.of (lv0 := [(0, .ref a0), (1, .int x1)]) (by decide) (Nat.le_of_ble_eq_true rfl) rfl (fun X hX C => ?_)
  subst hX
  unfold fX12_body
  refine z_aload_n C 0 dX12_body_0 rfl ?_
  refine z_getI C qX12_247 dX12_body_1 (fun v_1 => ?_)
  refine z_bipush (v := (20 : Int32)) C dX12_body_4 rfl ?_
  refine z_icmpge C 19 dX12_body_6 rfl ?_ ?_
  · exact z_lv _ [0, 1] rfl (tX12_body_19 C N _ a0 x1)
  · refine z_aload_n C 0 dX12_body_9 rfl ?_
    refine z_getR C qX12_52 dX12_body_10 (fun a_2 => ?_)
    refine z_aload_n C 0 dX12_body_13 rfl ?_
    refine z_getI C qX12_247 dX12_body_14 (fun v_3 => ?_)
    refine z_iload_n C 1 dX12_body_17 rfl ?_
    refine z_iastore C dX12_body_18 (fun h_4 => ?_)
    exact z_lv _ [0, 1] rfl (tX12_body_19 C N _ a0 x1)
def fX12_all (N : Nat) (rM : AH → Nat → Int32 → Int32 → Int32 → Int32 → Option (Int32 × AH)) (h : AH) (a0 : Nat) (x1 : Int32) (x2 : Int32) (x3 : Int32) : Option (Int32 × AH) :=
  (zis h a0 12).bind fun _ =>
  zcall (fX12_kind N h a0 x1) fun v_2 h_1 =>
  (zis h_1 a0 12).bind fun _ =>
  zcall (rM h_1 a0 v_2 x1 x2 x3) fun v_5 h_4 =>
  some (v_5, h_4)
theorem kX12_all {l : Launch} {g : zG} {lev : Nat} (hlev : 2 ≤ lev) (N : Nat) {rM : AH → Nat → Int32 → Int32 → Int32 → Int32 → Option (Int32 × AH)} {lv_rM : Nat} (le_rM : lv_rM + 1 ≤ lev) (hm_rM : ∀ (h : AH) (a : Nat) (v0 : Int32) (v1 : Int32) (v2 : Int32) (v3 : Int32), zM l g yX12_from cX12_from 7 (some .int) lv_rM 0 0 (fun v : Int32 => some (.int v)) (rM h a v0 v1 v2 v3) h [.ref a, .int v0, .int v1, .int v2, .int v3]) (h : AH) (a0 : Nat) (x1 : Int32) (x2 : Int32) (x3 : Int32) : zM l g yX12_all cX12_all 4 (some .int) lev 0 0 (fun v : Int32 => some (.int v)) (fX12_all N rM h a0 x1 x2 x3) h [.ref a0, .int x1, .int x2, .int x3] := by
  refine zM.of (lv0 := [(0, .ref a0), (1, .int x1), (2, .int x2), (3, .int x3)]) (by decide) (Nat.le_of_ble_eq_true rfl) rfl (fun X hX C => ?_)
  subst hX
  unfold fX12_all
  refine z_aload_n C 0 dX12_all_0 rfl ?_
  refine z_aload_n C 0 dX12_all_1 rfl ?_
  refine z_iload_n C 1 dX12_all_2 rfl ?_
  refine z_bind (fun _ q_3 => ?_)
  refine z_calli (z_runV (As := [.int x1]) (rest := [.ref a0]) C mX12_108 (kX12_kind N h a0 x1) q_3 (by omega) ⟨Nat.zero_le _, Nat.zero_le _⟩ dX12_all_3 rfl rfl (Nat.le_of_ble_eq_true rfl)) rfl (fun v_2 h_1 => ?_)
  refine z_iload_n C 1 dX12_all_6 rfl ?_
  refine z_iload_n C 2 dX12_all_7 rfl ?_
  refine z_iload_n C 3 dX12_all_8 rfl ?_
  refine z_bind (fun _ q_6 => ?_)
  refine z_calli (z_runV (As := [.int v_2, .int x1, .int x2, .int x3]) (rest := []) C mX12_250 (hm_rM h_1 a0 v_2 x1 x2 x3) q_6 le_rM ⟨Nat.zero_le _, Nat.zero_le _⟩ dX12_all_9 rfl rfl (Nat.le_of_ble_eq_true rfl)) rfl (fun v_5 h_4 => ?_)
  exact z_ireturn C ⟨rfl, rfl⟩ dX12_all_12
def bX12_from_3 (N : Nat) (rL : AH → Nat → Int32 → Int32 → Int32 → Option (Int32 × AH)) (rM : AH → Nat → Int32 → Int32 → Int32 → Int32 → Option (Int32 × AH)) (r3 : AH → Nat → Int32 → Int32 → Int32 → Int32 → Option (Int32 × AH)) (h : AH) (a0 : Nat) (x2 : Int32) (x3 : Int32) (x4 : Int32) (x5 : Int32) : Option (Int32 × AH) :=
  (zgR h a0 12 21).bind fun a_1 =>
  (zald 0 h a_1 (((3 : Int32) * x5) + x3)).bind fun v_2 =>
  (if v_2 = (0) then
  (zgR h a0 12 20).bind fun a_62 =>
  (zald 0 h a_62 x5).bind fun v_63 =>
  r3 h a0 x2 x3 x4 v_63
  else
  (zgR h a0 12 20).bind fun a_3 =>
  (zald 0 h a_3 x5).bind fun v_4 =>
  (zgR h a0 12 21).bind fun a_5 =>
  (zald 0 h a_5 (((3 : Int32) * x5) + x3)).bind fun v_6 =>
  (zis h a0 12).bind fun _ =>
  zcall (fX12_body N h a0 v_6) fun v_8 h_7 =>
  (if v_8 = (10 : Int32) then
  some (x4 + x2, h_7)
  else if v_8 = (11 : Int32) then
  (zis h_7 a0 12).bind fun _ =>
  zcall (rL h_7 a0 x2 (0 : Int32) x4) fun v_13 h_12 =>
  (zis h_12 a0 12).bind fun _ =>
  zcall (fX12_v N h_12 a0 x2) fun v_16 h_15 =>
  some (v_13 - v_16, h_15)
  else if v_8 = (12 : Int32) then
  (zis h_7 a0 12).bind fun _ =>
  zcall (rL h_7 a0 x2 (1 : Int32) x4) fun v_20 h_19 =>
  some (v_20 * (2 : Int32), h_19)
  else if v_8 = (20 : Int32) then
  (zis h_7 a0 12).bind fun _ =>
  zcall (rM h_7 a0 v_4 x2 (1 : Int32) x4) fun v_24 h_23 =>
  some (v_24 ^^^ (6 : Int32), h_23)
  else if v_8 = (30 : Int32) then
  (zis h_7 a0 12).bind fun _ =>
  zcall (rM h_7 a0 v_4 x2 (0 : Int32) (x4 * (3 : Int32))) fun v_28 h_27 =>
  some (v_28, h_27)
  else if v_8 = (40 : Int32) then
  (zis h_7 a0 12).bind fun _ =>
  zcall (rM h_7 a0 v_4 x2 (2 : Int32) x4) fun v_32 h_31 =>
  (zis h_31 a0 12).bind fun _ =>
  zcall (rL h_31 a0 x2 (1 : Int32) (1 : Int32)) fun v_35 h_34 =>
  some (v_32 + v_35, h_34)
  else if v_8 = (50 : Int32) then
  (zis h_7 a0 12).bind fun _ =>
  zcall (rM h_7 a0 v_4 x2 (0 : Int32) x4) fun v_39 h_38 =>
  some (-v_39, h_38)
  else if v_8 = (51 : Int32) then
  (zis h_7 a0 12).bind fun _ =>
  zcall (rM h_7 a0 v_4 x2 (1 : Int32) (x4 + (1 : Int32))) fun v_43 h_42 =>
  some (v_43, h_42)
  else if v_8 = (60 : Int32) then
  (zis h_7 a0 12).bind fun _ =>
  zcall (rM h_7 a0 v_4 x2 (2 : Int32) (x4 - x2)) fun v_47 h_46 =>
  some (v_47, h_46)
  else if v_8 = (70 : Int32) then
  (zis h_7 a0 12).bind fun _ =>
  zcall (rM h_7 a0 v_4 x2 (1 : Int32) x4) fun v_51 h_50 =>
  (zis h_50 a0 12).bind fun _ =>
  zcall (rM h_50 a0 v_4 x2 (0 : Int32) (2 : Int32)) fun v_54 h_53 =>
  some (v_51 + v_54, h_53)
  else 
  (zis h_7 a0 12).bind fun _ =>
  zcall (rM h_7 a0 v_4 x2 (0 : Int32) x4) fun v_57 h_56 =>
  (zis h_56 a0 12).bind fun _ =>
  zcall (fX12_v N h_56 a0 x2) fun v_60 h_59 =>
  some (v_57 ^^^ v_60, h_59)))
theorem tX12_from_3 {X : zX} {g : zG} {lev : Nat} (hlev : 2 ≤ lev) (C : zC X g yX12_from cX12_from 7 lev 0 0 (some .int)) (N : Nat) {rL : AH → Nat → Int32 → Int32 → Int32 → Option (Int32 × AH)} {lv_rL : Nat} (le_rL : lv_rL + 1 ≤ lev) (hm_rL : ∀ (h : AH) (a : Nat) (v0 : Int32) (v1 : Int32) (v2 : Int32), zM X.2.1 g yX12_all cX12_all 4 (some .int) lv_rL 0 0 (fun v : Int32 => some (.int v)) (rL h a v0 v1 v2) h [.ref a, .int v0, .int v1, .int v2]) {rM : AH → Nat → Int32 → Int32 → Int32 → Int32 → Option (Int32 × AH)} {lv_rM : Nat} (le_rM : lv_rM + 1 ≤ lev) (hm_rM : ∀ (h : AH) (a : Nat) (v0 : Int32) (v1 : Int32) (v2 : Int32) (v3 : Int32), zM X.2.1 g yX12_from cX12_from 7 (some .int) lv_rM 0 0 (fun v : Int32 => some (.int v)) (rM h a v0 v1 v2 v3) h [.ref a, .int v0, .int v1, .int v2, .int v3]) (n : Nat) : ∀ (h : AH) (a0 : Nat) (x2 : Int32) (x3 : Int32) (x4 : Int32) (x5 : Int32), ZZ X g 7 (0, 0, 0, 0) (fun v : Int32 => some (.int v)) (zfix (fun _ _ _ _ _ _ => none) (bX12_from_3 N rL rM) n h a0 x2 x3 x4 x5) h 3 [(0, .ref a0), (2, .int x2), (3, .int x3), (4, .int x4), (5, .int x5)] [] := by
  induction n with
  | zero => intro h a0 x2 x3 x4 x5; exact z_none
  | succ n hr3 =>
    intro h a0 x2 x3 x4 x5
    show ZZ X g 7 (0, 0, 0, 0) _ (bX12_from_3 N rL rM (zfix (fun _ _ _ _ _ _ => none) (bX12_from_3 N rL rM) n) h a0 x2 x3 x4 x5) h 3 _ _
    unfold bX12_from_3
    refine z_aload_n C 0 dX12_from_3 rfl ?_
    refine z_getR C qX12_49 dX12_from_4 (fun a_1 => ?_)
    refine z_iconst (v := (3 : Int32)) C dX12_from_7 rfl ?_
    refine z_iload C 4 dX12_from_8 rfl ?_
    refine z_imul C dX12_from_10 ?_
    refine z_iload_n C 2 dX12_from_11 rfl ?_
    refine z_iadd C dX12_from_12 ?_
    refine z_iaload C dX12_from_13 (fun v_2 => ?_)
    refine z_ifne C 29 dX12_from_14 rfl ?_ ?_
    · refine z_aload_n C 0 dX12_from_29 rfl ?_
      refine z_getR C qX12_46 dX12_from_30 (fun a_3 => ?_)
      refine z_iload C 4 dX12_from_33 rfl ?_
      refine z_iaload C dX12_from_35 (fun v_4 => ?_)
      refine z_istore C dX12_from_36 [(6, .int v_4), (0, .ref a0), (2, .int x2), (3, .int x3), (4, .int x4), (5, .int x5)] (by decide) rfl ?_
      refine z_aload_n C 1 dX12_from_38 rfl ?_
      refine z_aload_n C 1 dX12_from_39 rfl ?_
      refine z_getR C qX12_49 dX12_from_40 (fun a_5 => ?_)
      refine z_iconst (v := (3 : Int32)) C dX12_from_43 rfl ?_
      refine z_iload C 5 dX12_from_44 rfl ?_
      refine z_imul C dX12_from_46 ?_
      refine z_iload_n C 3 dX12_from_47 rfl ?_
      refine z_iadd C dX12_from_48 ?_
      refine z_iaload C dX12_from_49 (fun v_6 => ?_)
      refine z_bind (fun _ q_9 => ?_)
      refine z_calli (z_runV (As := [.int v_6]) (rest := []) C mX12_254 (kX12_body N h a0 v_6) q_9 (by omega) ⟨Nat.zero_le _, Nat.zero_le _⟩ dX12_from_50 rfl rfl (Nat.le_of_ble_eq_true rfl)) rfl (fun v_8 h_7 => ?_)
      refine z_ite (fun q_10 => ?_) (fun q_10 => ?_)
      · subst q_10
        refine z_lookup C 144 dX12_from_53 rfl rfl rfl ?_
        refine z_iload C 4 dX12_from_144 rfl ?_
        refine z_iload_n C 2 dX12_from_146 rfl ?_
        refine z_iadd C dX12_from_147 ?_
        exact z_ireturn C ⟨rfl, rfl⟩ dX12_from_148
      refine z_ite (fun q_11 => ?_) (fun q_11 => ?_)
      · subst q_11
        refine z_lookup C 149 dX12_from_53 rfl rfl rfl ?_
        refine z_aload_n C 1 dX12_from_149 rfl ?_
        refine z_iload_n C 2 dX12_from_150 rfl ?_
        refine z_iconst (v := (0 : Int32)) C dX12_from_151 rfl ?_
        refine z_iload C 4 dX12_from_152 rfl ?_
        refine z_bind (fun _ q_14 => ?_)
        refine z_calli (z_runV (As := [.int x2, .int (0 : Int32), .int x4]) (rest := []) C mX12_257 (hm_rL h_7 a0 x2 (0 : Int32) x4) q_14 le_rL ⟨Nat.zero_le _, Nat.zero_le _⟩ dX12_from_154 rfl rfl (Nat.le_of_ble_eq_true rfl)) rfl (fun v_13 h_12 => ?_)
        refine z_aload_n C 1 dX12_from_157 rfl ?_
        refine z_iload_n C 2 dX12_from_158 rfl ?_
        refine z_bind (fun _ q_17 => ?_)
        refine z_calli (z_runV (As := [.int x2]) (rest := [.int v_13]) C mX12_163 (kX12_v N h_12 a0 x2) q_17 (by omega) ⟨Nat.zero_le _, Nat.zero_le _⟩ dX12_from_159 rfl rfl (Nat.le_of_ble_eq_true rfl)) rfl (fun v_16 h_15 => ?_)
        refine z_isub C dX12_from_162 ?_
        exact z_ireturn C ⟨rfl, rfl⟩ dX12_from_163
      refine z_ite (fun q_18 => ?_) (fun q_18 => ?_)
      · subst q_18
        refine z_lookup C 164 dX12_from_53 rfl rfl rfl ?_
        refine z_aload_n C 1 dX12_from_164 rfl ?_
        refine z_iload_n C 2 dX12_from_165 rfl ?_
        refine z_iconst (v := (1 : Int32)) C dX12_from_166 rfl ?_
        refine z_iload C 4 dX12_from_167 rfl ?_
        refine z_bind (fun _ q_21 => ?_)
        refine z_calli (z_runV (As := [.int x2, .int (1 : Int32), .int x4]) (rest := []) C mX12_257 (hm_rL h_7 a0 x2 (1 : Int32) x4) q_21 le_rL ⟨Nat.zero_le _, Nat.zero_le _⟩ dX12_from_169 rfl rfl (Nat.le_of_ble_eq_true rfl)) rfl (fun v_20 h_19 => ?_)
        refine z_iconst (v := (2 : Int32)) C dX12_from_172 rfl ?_
        refine z_imul C dX12_from_173 ?_
        exact z_ireturn C ⟨rfl, rfl⟩ dX12_from_174
      refine z_ite (fun q_22 => ?_) (fun q_22 => ?_)
      · subst q_22
        refine z_lookup C 175 dX12_from_53 rfl rfl rfl ?_
        refine z_aload_n C 1 dX12_from_175 rfl ?_
        refine z_iload C 0 dX12_from_176 rfl ?_
        refine z_iload_n C 2 dX12_from_178 rfl ?_
        refine z_iconst (v := (1 : Int32)) C dX12_from_179 rfl ?_
        refine z_iload C 4 dX12_from_180 rfl ?_
        refine z_bind (fun _ q_25 => ?_)
        refine z_calli (z_runV (As := [.int v_4, .int x2, .int (1 : Int32), .int x4]) (rest := []) C mX12_250 (hm_rM h_7 a0 v_4 x2 (1 : Int32) x4) q_25 le_rM ⟨Nat.zero_le _, Nat.zero_le _⟩ dX12_from_182 rfl rfl (Nat.le_of_ble_eq_true rfl)) rfl (fun v_24 h_23 => ?_)
        refine z_bipush (v := (6 : Int32)) C dX12_from_185 rfl ?_
        refine z_ixor C dX12_from_187 ?_
        exact z_ireturn C ⟨rfl, rfl⟩ dX12_from_188
      refine z_ite (fun q_26 => ?_) (fun q_26 => ?_)
      · subst q_26
        refine z_lookup C 189 dX12_from_53 rfl rfl rfl ?_
        refine z_aload_n C 1 dX12_from_189 rfl ?_
        refine z_iload C 0 dX12_from_190 rfl ?_
        refine z_iload_n C 2 dX12_from_192 rfl ?_
        refine z_iconst (v := (0 : Int32)) C dX12_from_193 rfl ?_
        refine z_iload C 4 dX12_from_194 rfl ?_
        refine z_iconst (v := (3 : Int32)) C dX12_from_196 rfl ?_
        refine z_imul C dX12_from_197 ?_
        refine z_bind (fun _ q_29 => ?_)
        refine z_calli (z_runV (As := [.int v_4, .int x2, .int (0 : Int32), .int (x4 * (3 : Int32))]) (rest := []) C mX12_250 (hm_rM h_7 a0 v_4 x2 (0 : Int32) (x4 * (3 : Int32))) q_29 le_rM ⟨Nat.zero_le _, Nat.zero_le _⟩ dX12_from_198 rfl rfl (Nat.le_of_ble_eq_true rfl)) rfl (fun v_28 h_27 => ?_)
        exact z_ireturn C ⟨rfl, rfl⟩ dX12_from_201
      refine z_ite (fun q_30 => ?_) (fun q_30 => ?_)
      · subst q_30
        refine z_lookup C 202 dX12_from_53 rfl rfl rfl ?_
        refine z_aload_n C 1 dX12_from_202 rfl ?_
        refine z_iload C 0 dX12_from_203 rfl ?_
        refine z_iload_n C 2 dX12_from_205 rfl ?_
        refine z_iconst (v := (2 : Int32)) C dX12_from_206 rfl ?_
        refine z_iload C 4 dX12_from_207 rfl ?_
        refine z_bind (fun _ q_33 => ?_)
        refine z_calli (z_runV (As := [.int v_4, .int x2, .int (2 : Int32), .int x4]) (rest := []) C mX12_250 (hm_rM h_7 a0 v_4 x2 (2 : Int32) x4) q_33 le_rM ⟨Nat.zero_le _, Nat.zero_le _⟩ dX12_from_209 rfl rfl (Nat.le_of_ble_eq_true rfl)) rfl (fun v_32 h_31 => ?_)
        refine z_aload_n C 1 dX12_from_212 rfl ?_
        refine z_iload_n C 2 dX12_from_213 rfl ?_
        refine z_iconst (v := (1 : Int32)) C dX12_from_214 rfl ?_
        refine z_iconst (v := (1 : Int32)) C dX12_from_215 rfl ?_
        refine z_bind (fun _ q_36 => ?_)
        refine z_calli (z_runV (As := [.int x2, .int (1 : Int32), .int (1 : Int32)]) (rest := [.int v_32]) C mX12_257 (hm_rL h_31 a0 x2 (1 : Int32) (1 : Int32)) q_36 le_rL ⟨Nat.zero_le _, Nat.zero_le _⟩ dX12_from_216 rfl rfl (Nat.le_of_ble_eq_true rfl)) rfl (fun v_35 h_34 => ?_)
        refine z_iadd C dX12_from_219 ?_
        exact z_ireturn C ⟨rfl, rfl⟩ dX12_from_220
      refine z_ite (fun q_37 => ?_) (fun q_37 => ?_)
      · subst q_37
        refine z_lookup C 221 dX12_from_53 rfl rfl rfl ?_
        refine z_aload_n C 1 dX12_from_221 rfl ?_
        refine z_iload C 0 dX12_from_222 rfl ?_
        refine z_iload_n C 2 dX12_from_224 rfl ?_
        refine z_iconst (v := (0 : Int32)) C dX12_from_225 rfl ?_
        refine z_iload C 4 dX12_from_226 rfl ?_
        refine z_bind (fun _ q_40 => ?_)
        refine z_calli (z_runV (As := [.int v_4, .int x2, .int (0 : Int32), .int x4]) (rest := []) C mX12_250 (hm_rM h_7 a0 v_4 x2 (0 : Int32) x4) q_40 le_rM ⟨Nat.zero_le _, Nat.zero_le _⟩ dX12_from_228 rfl rfl (Nat.le_of_ble_eq_true rfl)) rfl (fun v_39 h_38 => ?_)
        refine z_ineg C dX12_from_231 ?_
        exact z_ireturn C ⟨rfl, rfl⟩ dX12_from_232
      refine z_ite (fun q_41 => ?_) (fun q_41 => ?_)
      · subst q_41
        refine z_lookup C 233 dX12_from_53 rfl rfl rfl ?_
        refine z_aload_n C 1 dX12_from_233 rfl ?_
        refine z_iload C 0 dX12_from_234 rfl ?_
        refine z_iload_n C 2 dX12_from_236 rfl ?_
        refine z_iconst (v := (1 : Int32)) C dX12_from_237 rfl ?_
        refine z_iload C 4 dX12_from_238 rfl ?_
        refine z_iconst (v := (1 : Int32)) C dX12_from_240 rfl ?_
        refine z_iadd C dX12_from_241 ?_
        refine z_bind (fun _ q_44 => ?_)
        refine z_calli (z_runV (As := [.int v_4, .int x2, .int (1 : Int32), .int (x4 + (1 : Int32))]) (rest := []) C mX12_250 (hm_rM h_7 a0 v_4 x2 (1 : Int32) (x4 + (1 : Int32))) q_44 le_rM ⟨Nat.zero_le _, Nat.zero_le _⟩ dX12_from_242 rfl rfl (Nat.le_of_ble_eq_true rfl)) rfl (fun v_43 h_42 => ?_)
        exact z_ireturn C ⟨rfl, rfl⟩ dX12_from_245
      refine z_ite (fun q_45 => ?_) (fun q_45 => ?_)
      · subst q_45
        refine z_lookup C 246 dX12_from_53 rfl rfl rfl ?_
        refine z_aload_n C 1 dX12_from_246 rfl ?_
        refine z_iload C 0 dX12_from_247 rfl ?_
        refine z_iload_n C 2 dX12_from_249 rfl ?_
        refine z_iconst (v := (2 : Int32)) C dX12_from_250 rfl ?_
        refine z_iload C 4 dX12_from_251 rfl ?_
        refine z_iload_n C 2 dX12_from_253 rfl ?_
        refine z_isub C dX12_from_254 ?_
        refine z_bind (fun _ q_48 => ?_)
        refine z_calli (z_runV (As := [.int v_4, .int x2, .int (2 : Int32), .int (x4 - x2)]) (rest := []) C mX12_250 (hm_rM h_7 a0 v_4 x2 (2 : Int32) (x4 - x2)) q_48 le_rM ⟨Nat.zero_le _, Nat.zero_le _⟩ dX12_from_255 rfl rfl (Nat.le_of_ble_eq_true rfl)) rfl (fun v_47 h_46 => ?_)
        exact z_ireturn C ⟨rfl, rfl⟩ dX12_from_258
      refine z_ite (fun q_49 => ?_) (fun q_49 => ?_)
      · subst q_49
        refine z_lookup C 259 dX12_from_53 rfl rfl rfl ?_
        refine z_aload_n C 1 dX12_from_259 rfl ?_
        refine z_iload C 0 dX12_from_260 rfl ?_
        refine z_iload_n C 2 dX12_from_262 rfl ?_
        refine z_iconst (v := (1 : Int32)) C dX12_from_263 rfl ?_
        refine z_iload C 4 dX12_from_264 rfl ?_
        refine z_bind (fun _ q_52 => ?_)
        refine z_calli (z_runV (As := [.int v_4, .int x2, .int (1 : Int32), .int x4]) (rest := []) C mX12_250 (hm_rM h_7 a0 v_4 x2 (1 : Int32) x4) q_52 le_rM ⟨Nat.zero_le _, Nat.zero_le _⟩ dX12_from_266 rfl rfl (Nat.le_of_ble_eq_true rfl)) rfl (fun v_51 h_50 => ?_)
        refine z_aload_n C 1 dX12_from_269 rfl ?_
        refine z_iload C 0 dX12_from_270 rfl ?_
        refine z_iload_n C 2 dX12_from_272 rfl ?_
        refine z_iconst (v := (0 : Int32)) C dX12_from_273 rfl ?_
        refine z_iconst (v := (2 : Int32)) C dX12_from_274 rfl ?_
        refine z_bind (fun _ q_55 => ?_)
        refine z_calli (z_runV (As := [.int v_4, .int x2, .int (0 : Int32), .int (2 : Int32)]) (rest := [.int v_51]) C mX12_250 (hm_rM h_50 a0 v_4 x2 (0 : Int32) (2 : Int32)) q_55 le_rM ⟨Nat.zero_le _, Nat.zero_le _⟩ dX12_from_275 rfl rfl (Nat.le_of_ble_eq_true rfl)) rfl (fun v_54 h_53 => ?_)
        refine z_iadd C dX12_from_278 ?_
        exact z_ireturn C ⟨rfl, rfl⟩ dX12_from_279
      refine z_lookup (o := 227) C 280 dX12_from_53 rfl (by show Op.lookupswitch.offset [(10, 91), (11, 96), (12, 111), (20, 122), (30, 136), (40, 149), (50, 168), (51, 180), (60, 193), (70, 206)] 227 v_8.toInt = 227; rw [lv_osw (a := 10) q_10 rfl, lv_osw (a := 11) q_11 rfl, lv_osw (a := 12) q_18 rfl, lv_osw (a := 20) q_22 rfl, lv_osw (a := 30) q_26 rfl, lv_osw (a := 40) q_30 rfl, lv_osw (a := 50) q_37 rfl, lv_osw (a := 51) q_41 rfl, lv_osw (a := 60) q_45 rfl, lv_osw (a := 70) q_49 rfl]; first | done | rfl) rfl ?_
      refine z_aload_n C 1 dX12_from_280 rfl ?_
      refine z_iload C 0 dX12_from_281 rfl ?_
      refine z_iload_n C 2 dX12_from_283 rfl ?_
      refine z_iconst (v := (0 : Int32)) C dX12_from_284 rfl ?_
      refine z_iload C 4 dX12_from_285 rfl ?_
      refine z_bind (fun _ q_58 => ?_)
      refine z_calli (z_runV (As := [.int v_4, .int x2, .int (0 : Int32), .int x4]) (rest := []) C mX12_250 (hm_rM h_7 a0 v_4 x2 (0 : Int32) x4) q_58 le_rM ⟨Nat.zero_le _, Nat.zero_le _⟩ dX12_from_287 rfl rfl (Nat.le_of_ble_eq_true rfl)) rfl (fun v_57 h_56 => ?_)
      refine z_aload_n C 1 dX12_from_290 rfl ?_
      refine z_iload_n C 2 dX12_from_291 rfl ?_
      refine z_bind (fun _ q_61 => ?_)
      refine z_calli (z_runV (As := [.int x2]) (rest := [.int v_57]) C mX12_163 (kX12_v N h_56 a0 x2) q_61 (by omega) ⟨Nat.zero_le _, Nat.zero_le _⟩ dX12_from_292 rfl rfl (Nat.le_of_ble_eq_true rfl)) rfl (fun v_60 h_59 => ?_)
      refine z_ixor C dX12_from_295 ?_
      exact z_ireturn C ⟨rfl, rfl⟩ dX12_from_296
    · refine z_aload_n C 0 dX12_from_17 rfl ?_
      refine z_getR C qX12_46 dX12_from_18 (fun a_62 => ?_)
      refine z_iload C 4 dX12_from_21 rfl ?_
      refine z_iaload C dX12_from_23 (fun v_63 => ?_)
      refine z_istore C dX12_from_24 [(5, .int v_63), (0, .ref a0), (2, .int x2), (3, .int x3), (4, .int x4)] (by decide) rfl ?_
      refine z_goto C 3 dX12_from_26 rfl ?_
      exact z_lv _ [1, 2, 3, 4, 0] rfl (hr3 _ a0 x2 x3 x4 v_63)
def fX12_from (N : Nat) (rL : AH → Nat → Int32 → Int32 → Int32 → Option (Int32 × AH)) (rM : AH → Nat → Int32 → Int32 → Int32 → Int32 → Option (Int32 × AH)) (h : AH) (a0 : Nat) (x1 : Int32) (x2 : Int32) (x3 : Int32) (x4 : Int32) : Option (Int32 × AH) :=
  zfix (fun _ _ _ _ _ _ => none) (bX12_from_3 N rL rM) N h a0 x2 x3 x4 x1
theorem kX12_from {l : Launch} {g : zG} {lev : Nat} (hlev : 2 ≤ lev) (N : Nat) {rL : AH → Nat → Int32 → Int32 → Int32 → Option (Int32 × AH)} {lv_rL : Nat} (le_rL : lv_rL + 1 ≤ lev) (hm_rL : ∀ (h : AH) (a : Nat) (v0 : Int32) (v1 : Int32) (v2 : Int32), zM l g yX12_all cX12_all 4 (some .int) lv_rL 0 0 (fun v : Int32 => some (.int v)) (rL h a v0 v1 v2) h [.ref a, .int v0, .int v1, .int v2]) {rM : AH → Nat → Int32 → Int32 → Int32 → Int32 → Option (Int32 × AH)} {lv_rM : Nat} (le_rM : lv_rM + 1 ≤ lev) (hm_rM : ∀ (h : AH) (a : Nat) (v0 : Int32) (v1 : Int32) (v2 : Int32) (v3 : Int32), zM l g yX12_from cX12_from 7 (some .int) lv_rM 0 0 (fun v : Int32 => some (.int v)) (rM h a v0 v1 v2 v3) h [.ref a, .int v0, .int v1, .int v2, .int v3]) (h : AH) (a0 : Nat) (x1 : Int32) (x2 : Int32) (x3 : Int32) (x4 : Int32) : zM l g yX12_from cX12_from 7 (some .int) lev 0 0 (fun v : Int32 => some (.int v)) (fX12_from N rL rM h a0 x1 x2 x3 x4) h [.ref a0, .int x1, .int x2, .int x3, .int x4] := by
  refine zM.of (lv0 := [(0, .ref a0), (1, .int x1), (2, .int x2), (3, .int x3), (4, .int x4)]) (by decide) (Nat.le_of_ble_eq_true rfl) rfl (fun X hX C => ?_)
  subst hX
  unfold fX12_from
  refine z_iload_n C 1 dX12_from_0 rfl ?_
  refine z_istore C dX12_from_1 [(5, .int x1), (0, .ref a0), (1, .int x1), (2, .int x2), (3, .int x3), (4, .int x4)] (by decide) rfl ?_
  exact z_lv _ [1, 3, 4, 5, 0] rfl (tX12_from_3 hlev C N le_rL hm_rL le_rM hm_rM N _ a0 x2 x3 x4 x1)
def gX12_from (N d : Nat) : AH → Nat → Int32 → Int32 → Int32 → Int32 → Option (Int32 × AH) := zfix (fun _ _ _ _ _ _ => none) (fun r => fX12_from N (fX12_all N r) r) d
def gX12_all (N d : Nat) : AH → Nat → Int32 → Int32 → Int32 → Option (Int32 × AH) := fX12_all N (gX12_from N d)
theorem kgX12_from' {l : Launch} {g : zG} (N d : Nat) : ∀ (h : AH) (a : Nat) (v0 : Int32) (v1 : Int32) (v2 : Int32) (v3 : Int32), zM l g yX12_from cX12_from 7 (some .int) (2 + 2 * d) 0 0 (fun v : Int32 => some (.int v)) (gX12_from N d h a v0 v1 v2 v3) h [.ref a, .int v0, .int v1, .int v2, .int v3] := by
  induction d with
  | zero => intro h a v0 v1 v2 v3 r h' E; cases E
  | succ d ih =>
    intro h a v0 v1 v2 v3
    exact kX12_from (by omega) N (lv_rL := (2 + 2 * d + 1)) (by omega) (fun h a v0 v1 v2 => kX12_all (by omega) N (lv_rM := (2 + 2 * d + 0)) (by omega) ih h a v0 v1 v2) (lv_rM := (2 + 2 * d + 0)) (by omega) ih h a v0 v1 v2 v3
theorem kgX12_from {l : Launch} {g : zG} (N d : Nat) : ∀ (h : AH) (a : Nat) (v0 : Int32) (v1 : Int32) (v2 : Int32) (v3 : Int32), zM l g yX12_from cX12_from 7 (some .int) (2 + 2 * d) 0 0 (fun v : Int32 => some (.int v)) (gX12_from N d h a v0 v1 v2 v3) h [.ref a, .int v0, .int v1, .int v2, .int v3] := kgX12_from' N d
theorem kgX12_all {l : Launch} {g : zG} (N d : Nat) : ∀ (h : AH) (a : Nat) (v0 : Int32) (v1 : Int32) (v2 : Int32), zM l g yX12_all cX12_all 4 (some .int) (2 + 2 * d + 1) 0 0 (fun v : Int32 => some (.int v)) (gX12_all N d h a v0 v1 v2) h [.ref a, .int v0, .int v1, .int v2] := fun h a v0 v1 v2 => kX12_all (by omega) N (lv_rM := (2 + 2 * d + 0)) (by omega) (kgX12_from' N d) h a v0 v1 v2
def fX12_act (N : Nat) (h : AH) (a0 : Nat) (x1 : Int32) (x2 : Int32) (x3 : Int32) : Option (Int32 × AH) :=
  (zput h a0 12 23 (.int (0 : Int32))).bind fun h_1 =>
  (zis h_1 a0 12).bind fun _ =>
  zcall (fX12_isMaster N h_1 a0 x1) fun v_3 h_2 =>
  (if v_3 = (0) then
  some ((0 : Int32), h_2)
  else
  zcall (fX12_isIn N h_2 x2 (0 : Int32) (2 : Int32)) fun v_6 h_5 =>
  (if v_6 = (0) then
  some ((0 : Int32), h_5)
  else
  (zis h_5 a0 12).bind fun _ =>
  zcall (gX12_all N 12 h_5 a0 x1 x2 x3) fun v_8 h_7 =>
  some (v_8, h_7)))
theorem kX12_act {l : Launch} {g : zG} (N : Nat) (h : AH) (a0 : Nat) (x1 : Int32) (x2 : Int32) (x3 : Int32) : zM l g yX12_act cX12_act 4 (some .int) (28) 0 0 (fun v : Int32 => some (.int v)) (fX12_act N h a0 x1 x2 x3) h [.ref a0, .int x1, .int x2, .int x3] := by
  refine zM.of (lv0 := [(0, .ref a0), (1, .int x1), (2, .int x2), (3, .int x3)]) (by decide) (Nat.le_of_ble_eq_true rfl) rfl (fun X hX C => ?_)
  subst hX
  unfold fX12_act
  refine z_aload_n C 0 dX12_act_0 rfl ?_
  refine z_iconst (v := (0 : Int32)) C dX12_act_1 rfl ?_
  refine z_putI C pX12_247 dX12_act_2 (fun h_1 => ?_)
  refine z_aload_n C 0 dX12_act_5 rfl ?_
  refine z_iload_n C 1 dX12_act_6 rfl ?_
  refine z_bind (fun _ q_4 => ?_)
  refine z_calli (z_runV (As := [.int x1]) (rest := []) C mX12_80 (kX12_isMaster N h_1 a0 x1) q_4 (Nat.le_of_ble_eq_true rfl) ⟨Nat.zero_le _, Nat.zero_le _⟩ dX12_act_7 rfl rfl (Nat.le_of_ble_eq_true rfl)) rfl (fun v_3 h_2 => ?_)
  refine z_ifeq C 32 dX12_act_10 rfl ?_ ?_
  · refine z_iconst (v := (0 : Int32)) C dX12_act_32 rfl ?_
    exact z_ireturn C ⟨rfl, rfl⟩ dX12_act_33
  · refine z_iload_n C 2 dX12_act_13 rfl ?_
    refine z_iconst (v := (0 : Int32)) C dX12_act_14 rfl ?_
    refine z_iconst (v := (2 : Int32)) C dX12_act_15 rfl ?_
    refine z_calli (z_runS (As := [.int x2, .int (0 : Int32), .int (2 : Int32)]) (rest := []) C mX12_76 (kX12_isIn N h_2 x2 (0 : Int32) (2 : Int32)) (Nat.le_of_ble_eq_true rfl) ⟨Nat.zero_le _, Nat.zero_le _⟩ dX12_act_16 rfl rfl (Nat.le_of_ble_eq_true rfl)) rfl (fun v_6 h_5 => ?_)
    refine z_ifeq C 32 dX12_act_19 rfl ?_ ?_
    · refine z_iconst (v := (0 : Int32)) C dX12_act_32 rfl ?_
      exact z_ireturn C ⟨rfl, rfl⟩ dX12_act_33
    · refine z_aload_n C 0 dX12_act_22 rfl ?_
      refine z_iload_n C 1 dX12_act_23 rfl ?_
      refine z_iload_n C 2 dX12_act_24 rfl ?_
      refine z_iload_n C 3 dX12_act_25 rfl ?_
      refine z_bind (fun _ q_9 => ?_)
      refine z_calli (z_runV (As := [.int x1, .int x2, .int x3]) (rest := []) C mX12_257 (kgX12_all N 12 h_5 a0 x1 x2 x3) q_9 (Nat.le_of_ble_eq_true rfl) ⟨Nat.zero_le _, Nat.zero_le _⟩ dX12_act_26 rfl rfl (Nat.le_of_ble_eq_true rfl)) rfl (fun v_8 h_7 => ?_)
      refine z_goto C 33 dX12_act_29 rfl ?_
      exact z_ireturn C ⟨rfl, rfl⟩ dX12_act_33
def fX12_trace (N : Nat) (h : AH) (a0 : Nat) (x1 : Int32) : Option (Int32 × AH) :=
  (zgI h a0 12 23).bind fun v_1 =>
  zcall (fX12_isIn N h x1 (0 : Int32) ((if v_1 < (20 : Int32) then v_1 else (20 : Int32)) - (1 : Int32))) fun v_3 h_2 =>
  (if v_3 = (0) then
  some ((-1 : Int32), h_2)
  else
  (zgR h_2 a0 12 22).bind fun a_4 =>
  (zald 0 h_2 a_4 x1).bind fun v_5 =>
  some (v_5, h_2))
theorem kX12_trace {l : Launch} {g : zG} (N : Nat) (h : AH) (a0 : Nat) (x1 : Int32) : zM l g yX12_trace cX12_trace 2 (some .int) (2) 0 0 (fun v : Int32 => some (.int v)) (fX12_trace N h a0 x1) h [.ref a0, .int x1] := by
  refine zM.of (lv0 := [(0, .ref a0), (1, .int x1)]) (by decide) (Nat.le_of_ble_eq_true rfl) rfl (fun X hX C => ?_)
  subst hX
  unfold fX12_trace
  refine z_iload_n C 1 dX12_trace_0 rfl ?_
  refine z_iconst (v := (0 : Int32)) C dX12_trace_1 rfl ?_
  refine z_bipush (v := (20 : Int32)) C dX12_trace_2 rfl ?_
  refine z_aload_n C 0 dX12_trace_4 rfl ?_
  refine z_getI C qX12_247 dX12_trace_5 (fun v_1 => ?_)
  refine z_mmin C mX12_260 dX12_trace_8 (Nat.le_of_ble_eq_true rfl) (by omega) ⟨Nat.zero_le _, Nat.zero_le _⟩ ?_
  refine z_iconst (v := (1 : Int32)) C dX12_trace_11 rfl ?_
  refine z_isub C dX12_trace_12 ?_
  refine z_calli (z_runS (As := [.int x1, .int (0 : Int32), .int ((if v_1 < (20 : Int32) then v_1 else (20 : Int32)) - (1 : Int32))]) (rest := []) C mX12_76 (kX12_isIn N h x1 (0 : Int32) ((if v_1 < (20 : Int32) then v_1 else (20 : Int32)) - (1 : Int32))) (Nat.le_of_ble_eq_true rfl) ⟨Nat.zero_le _, Nat.zero_le _⟩ dX12_trace_13 rfl rfl (Nat.le_of_ble_eq_true rfl)) rfl (fun v_3 h_2 => ?_)
  refine z_ifeq C 28 dX12_trace_16 rfl ?_ ?_
  · refine z_iconst (v := (-1 : Int32)) C dX12_trace_28 rfl ?_
    exact z_ireturn C ⟨rfl, rfl⟩ dX12_trace_29
  · refine z_aload_n C 0 dX12_trace_19 rfl ?_
    refine z_getR C qX12_52 dX12_trace_20 (fun a_4 => ?_)
    refine z_iload_n C 1 dX12_trace_23 rfl ?_
    refine z_iaload C dX12_trace_24 (fun v_5 => ?_)
    refine z_goto C 29 dX12_trace_25 rfl ?_
    exact z_ireturn C ⟨rfl, rfl⟩ dX12_trace_29
def bX12_taken_50 (N : Nat) (h : AH) (a0 : Nat) (x1 : Int32) (x2 : Int32) (x3 : Int32) : Option (Int32 × AH) :=
  (if x3 = x2 then
  (zis h a0 12).bind fun _ =>
  zcall (fX12_kind N h a0 x1) fun v_2 h_1 =>
  some (v_2, h_1)
  else
  some ((-12 : Int32), h))
theorem tX12_taken_50 {X : zX} {g : zG} (C : zC X g yX12_taken cX12_taken 4 3 0 0 (some .int)) (N : Nat) (h : AH) (a0 : Nat) (x1 : Int32) (x2 : Int32) (x3 : Int32) : ZZ X g 4 (0, 0, 0, 0) (fun v : Int32 => some (.int v)) (bX12_taken_50 N h a0 x1 x2 x3) h 50 [(0, .ref a0), (1, .int x1), (2, .int x2), (3, .int x3)] [] := by
  unfold bX12_taken_50
  refine z_iload_n C 3 dX12_taken_50 rfl ?_
  refine z_iload_n C 2 dX12_taken_51 rfl ?_
  refine z_icmpne C 63 dX12_taken_52 rfl ?_ ?_
  · refine z_bipush (v := (-12 : Int32)) C dX12_taken_63 rfl ?_
    exact z_ireturn C ⟨rfl, rfl⟩ dX12_taken_65
  · refine z_aload_n C 0 dX12_taken_55 rfl ?_
    refine z_iload_n C 1 dX12_taken_56 rfl ?_
    refine z_bind (fun _ q_3 => ?_)
    refine z_calli (z_runV (As := [.int x1]) (rest := []) C mX12_108 (kX12_kind N h a0 x1) q_3 (Nat.le_of_ble_eq_true rfl) ⟨Nat.zero_le _, Nat.zero_le _⟩ dX12_taken_57 rfl rfl (Nat.le_of_ble_eq_true rfl)) rfl (fun v_2 h_1 => ?_)
    refine z_goto C 65 dX12_taken_60 rfl ?_
    exact z_ireturn C ⟨rfl, rfl⟩ dX12_taken_65
def bX12_taken_30 (N : Nat) (r30 : AH → Nat → Int32 → Int32 → Int32 → Option (Int32 × AH)) (h : AH) (a0 : Nat) (x1 : Int32) (x2 : Int32) (x3 : Int32) : Option (Int32 × AH) :=
  (if x3 = (-1 : Int32) then
  bX12_taken_50 N h a0 x1 x2 x3
  else
  (if x3 = x2 then
  bX12_taken_50 N h a0 x1 x2 x3
  else
  (zgR h a0 12 20).bind fun a_1 =>
  (zald 0 h a_1 x3).bind fun v_2 =>
  r30 h a0 x1 x2 v_2))
theorem tX12_taken_30 {X : zX} {g : zG} (C : zC X g yX12_taken cX12_taken 4 3 0 0 (some .int)) (N : Nat) (n : Nat) : ∀ (h : AH) (a0 : Nat) (x1 : Int32) (x2 : Int32) (x3 : Int32), ZZ X g 4 (0, 0, 0, 0) (fun v : Int32 => some (.int v)) (zfix (fun _ _ _ _ _ => none) (bX12_taken_30 N) n h a0 x1 x2 x3) h 30 [(0, .ref a0), (1, .int x1), (2, .int x2), (3, .int x3)] [] := by
  induction n with
  | zero => intro h a0 x1 x2 x3; exact z_none
  | succ n hr30 =>
    intro h a0 x1 x2 x3
    show ZZ X g 4 (0, 0, 0, 0) _ (bX12_taken_30 N (zfix (fun _ _ _ _ _ => none) (bX12_taken_30 N) n) h a0 x1 x2 x3) h 30 _ _
    unfold bX12_taken_30
    refine z_iload_n C 3 dX12_taken_30 rfl ?_
    refine z_iconst (v := (-1 : Int32)) C dX12_taken_31 rfl ?_
    refine z_icmpeq C 50 dX12_taken_32 rfl ?_ ?_
    · exact z_lv _ [0, 1, 2, 3] rfl (tX12_taken_50 C N _ a0 x1 x2 x3)
    · refine z_iload_n C 3 dX12_taken_35 rfl ?_
      refine z_iload_n C 2 dX12_taken_36 rfl ?_
      refine z_icmpeq C 50 dX12_taken_37 rfl ?_ ?_
      · exact z_lv _ [0, 1, 2, 3] rfl (tX12_taken_50 C N _ a0 x1 x2 x3)
      · refine z_aload_n C 0 dX12_taken_40 rfl ?_
        refine z_getR C qX12_46 dX12_taken_41 (fun a_1 => ?_)
        refine z_iload_n C 3 dX12_taken_44 rfl ?_
        refine z_iaload C dX12_taken_45 (fun v_2 => ?_)
        refine z_istore_n C dX12_taken_46 [(3, .int v_2), (0, .ref a0), (1, .int x1), (2, .int x2)] (by decide) rfl ?_
        refine z_goto C 30 dX12_taken_47 rfl ?_
        exact z_lv _ [1, 2, 3, 0] rfl (hr30 _ a0 x1 x2 v_2)
def fX12_taken (N : Nat) (h : AH) (a0 : Nat) (x1 : Int32) (x2 : Int32) : Option (Int32 × AH) :=
  zcall (fX12_isIn N h x2 (0 : Int32) (6 : Int32)) fun v_2 h_1 =>
  (if v_2 = (0) then
  some ((-2 : Int32), h_1)
  else
  (zis h_1 a0 12).bind fun _ =>
  zcall (fX12_isMaster N h_1 a0 x1) fun v_4 h_3 =>
  (if v_4 = (0) then
  some ((-11 : Int32), h_3)
  else
  (zis h_3 a0 12).bind fun _ =>
  zcall (fX12_kind N h_3 a0 x1) fun v_7 h_6 =>
  zfix (fun _ _ _ _ _ => none) (bX12_taken_30 N) N h_6 a0 x1 x2 v_7))
theorem kX12_taken {l : Launch} {g : zG} (N : Nat) (h : AH) (a0 : Nat) (x1 : Int32) (x2 : Int32) : zM l g yX12_taken cX12_taken 4 (some .int) (3) 0 0 (fun v : Int32 => some (.int v)) (fX12_taken N h a0 x1 x2) h [.ref a0, .int x1, .int x2] := by
  refine zM.of (lv0 := [(0, .ref a0), (1, .int x1), (2, .int x2)]) (by decide) (Nat.le_of_ble_eq_true rfl) rfl (fun X hX C => ?_)
  subst hX
  unfold fX12_taken
  refine z_iload_n C 2 dX12_taken_0 rfl ?_
  refine z_iconst (v := (0 : Int32)) C dX12_taken_1 rfl ?_
  refine z_bipush (v := (6 : Int32)) C dX12_taken_2 rfl ?_
  refine z_calli (z_runS (As := [.int x2, .int (0 : Int32), .int (6 : Int32)]) (rest := []) C mX12_76 (kX12_isIn N h x2 (0 : Int32) (6 : Int32)) (Nat.le_of_ble_eq_true rfl) ⟨Nat.zero_le _, Nat.zero_le _⟩ dX12_taken_4 rfl rfl (Nat.le_of_ble_eq_true rfl)) rfl (fun v_2 h_1 => ?_)
  refine z_ifne C 13 dX12_taken_7 rfl ?_ ?_
  · refine z_aload_n C 0 dX12_taken_13 rfl ?_
    refine z_iload_n C 1 dX12_taken_14 rfl ?_
    refine z_bind (fun _ q_5 => ?_)
    refine z_calli (z_runV (As := [.int x1]) (rest := []) C mX12_80 (kX12_isMaster N h_1 a0 x1) q_5 (Nat.le_of_ble_eq_true rfl) ⟨Nat.zero_le _, Nat.zero_le _⟩ dX12_taken_15 rfl rfl (Nat.le_of_ble_eq_true rfl)) rfl (fun v_4 h_3 => ?_)
    refine z_ifne C 24 dX12_taken_18 rfl ?_ ?_
    · refine z_aload_n C 0 dX12_taken_24 rfl ?_
      refine z_iload_n C 1 dX12_taken_25 rfl ?_
      refine z_bind (fun _ q_8 => ?_)
      refine z_calli (z_runV (As := [.int x1]) (rest := []) C mX12_108 (kX12_kind N h_3 a0 x1) q_8 (Nat.le_of_ble_eq_true rfl) ⟨Nat.zero_le _, Nat.zero_le _⟩ dX12_taken_26 rfl rfl (Nat.le_of_ble_eq_true rfl)) rfl (fun v_7 h_6 => ?_)
      refine z_istore_n C dX12_taken_29 [(3, .int v_7), (0, .ref a0), (1, .int x1), (2, .int x2)] (by decide) rfl ?_
      exact z_lv _ [1, 2, 3, 0] rfl (tX12_taken_30 C N N _ a0 x1 x2 v_7)
    · refine z_bipush (v := (-11 : Int32)) C dX12_taken_21 rfl ?_
      exact z_ireturn C ⟨rfl, rfl⟩ dX12_taken_23
  · refine z_bipush (v := (-2 : Int32)) C dX12_taken_10 rfl ?_
    exact z_ireturn C ⟨rfl, rfl⟩ dX12_taken_12
def fX12_count (N : Nat) (h : AH) (a0 : Nat) (x1 : Int32) : Option (Int32 × AH) :=
  (if x1 = (0 : Int32) then
  (zgR h a0 12 0).bind fun a_2 =>
  (zald 0 h a_2 (76 : Int32)).bind fun v_3 =>
  some (v_3, h)
  else if x1 = (1 : Int32) then
  (zgR h a0 12 0).bind fun a_5 =>
  (zald 0 h a_5 (77 : Int32)).bind fun v_6 =>
  some (v_6, h)
  else if x1 = (2 : Int32) then
  (zgR h a0 12 0).bind fun a_8 =>
  (zald 0 h a_8 (78 : Int32)).bind fun v_9 =>
  some (v_9, h)
  else if x1 = (3 : Int32) then
  (zgI h a0 12 8).bind fun v_11 =>
  some (v_11, h)
  else if x1 = (4 : Int32) then
  (zgR h a0 12 0).bind fun a_13 =>
  (zald 0 h a_13 (81 : Int32)).bind fun v_14 =>
  some (v_14, h)
  else if x1 = (5 : Int32) then
  (zgR h a0 12 0).bind fun a_16 =>
  (zald 0 h a_16 (102 : Int32)).bind fun v_17 =>
  some (v_17, h)
  else if x1 = (6 : Int32) then
  (zgR h a0 12 0).bind fun a_19 =>
  (zald 0 h a_19 (123 : Int32)).bind fun v_20 =>
  some (v_20, h)
  else if x1 = (7 : Int32) then
  (zgI h a0 12 5).bind fun v_22 =>
  some (v_22, h)
  else if x1 = (8 : Int32) then
  (zgI h a0 12 23).bind fun v_24 =>
  some (v_24, h)
  else 
  some ((-2 : Int32), h))
theorem kX12_count {l : Launch} {g : zG} (N : Nat) (h : AH) (a0 : Nat) (x1 : Int32) : zM l g yX12_count cX12_count 2 (some .int) (1) 0 0 (fun v : Int32 => some (.int v)) (fX12_count N h a0 x1) h [.ref a0, .int x1] := by
  refine zM.of (lv0 := [(0, .ref a0), (1, .int x1)]) (by decide) (Nat.le_of_ble_eq_true rfl) rfl (fun X hX C => ?_)
  subst hX
  unfold fX12_count
  refine z_iload_n C 1 dX12_count_0 rfl ?_
  refine z_ite (fun q_1 => ?_) (fun q_1 => ?_)
  · subst q_1
    refine z_table C 52 dX12_count_1 (by decide) (by decide) rfl rfl ?_
    refine z_aload_n C 0 dX12_count_52 rfl ?_
    refine z_getR C qX12_9 dX12_count_53 (fun a_2 => ?_)
    refine z_bipush (v := (76 : Int32)) C dX12_count_56 rfl ?_
    refine z_iaload C dX12_count_58 (fun v_3 => ?_)
    exact z_ireturn C ⟨rfl, rfl⟩ dX12_count_59
  refine z_ite (fun q_4 => ?_) (fun q_4 => ?_)
  · subst q_4
    refine z_table C 60 dX12_count_1 (by decide) (by decide) rfl rfl ?_
    refine z_aload_n C 0 dX12_count_60 rfl ?_
    refine z_getR C qX12_9 dX12_count_61 (fun a_5 => ?_)
    refine z_bipush (v := (77 : Int32)) C dX12_count_64 rfl ?_
    refine z_iaload C dX12_count_66 (fun v_6 => ?_)
    exact z_ireturn C ⟨rfl, rfl⟩ dX12_count_67
  refine z_ite (fun q_7 => ?_) (fun q_7 => ?_)
  · subst q_7
    refine z_table C 68 dX12_count_1 (by decide) (by decide) rfl rfl ?_
    refine z_aload_n C 0 dX12_count_68 rfl ?_
    refine z_getR C qX12_9 dX12_count_69 (fun a_8 => ?_)
    refine z_bipush (v := (78 : Int32)) C dX12_count_72 rfl ?_
    refine z_iaload C dX12_count_74 (fun v_9 => ?_)
    exact z_ireturn C ⟨rfl, rfl⟩ dX12_count_75
  refine z_ite (fun q_10 => ?_) (fun q_10 => ?_)
  · subst q_10
    refine z_table C 76 dX12_count_1 (by decide) (by decide) rfl rfl ?_
    refine z_aload_n C 0 dX12_count_76 rfl ?_
    refine z_getI C qX12_169 dX12_count_77 (fun v_11 => ?_)
    exact z_ireturn C ⟨rfl, rfl⟩ dX12_count_80
  refine z_ite (fun q_12 => ?_) (fun q_12 => ?_)
  · subst q_12
    refine z_table C 81 dX12_count_1 (by decide) (by decide) rfl rfl ?_
    refine z_aload_n C 0 dX12_count_81 rfl ?_
    refine z_getR C qX12_9 dX12_count_82 (fun a_13 => ?_)
    refine z_bipush (v := (81 : Int32)) C dX12_count_85 rfl ?_
    refine z_iaload C dX12_count_87 (fun v_14 => ?_)
    exact z_ireturn C ⟨rfl, rfl⟩ dX12_count_88
  refine z_ite (fun q_15 => ?_) (fun q_15 => ?_)
  · subst q_15
    refine z_table C 89 dX12_count_1 (by decide) (by decide) rfl rfl ?_
    refine z_aload_n C 0 dX12_count_89 rfl ?_
    refine z_getR C qX12_9 dX12_count_90 (fun a_16 => ?_)
    refine z_bipush (v := (102 : Int32)) C dX12_count_93 rfl ?_
    refine z_iaload C dX12_count_95 (fun v_17 => ?_)
    exact z_ireturn C ⟨rfl, rfl⟩ dX12_count_96
  refine z_ite (fun q_18 => ?_) (fun q_18 => ?_)
  · subst q_18
    refine z_table C 97 dX12_count_1 (by decide) (by decide) rfl rfl ?_
    refine z_aload_n C 0 dX12_count_97 rfl ?_
    refine z_getR C qX12_9 dX12_count_98 (fun a_19 => ?_)
    refine z_bipush (v := (123 : Int32)) C dX12_count_101 rfl ?_
    refine z_iaload C dX12_count_103 (fun v_20 => ?_)
    exact z_ireturn C ⟨rfl, rfl⟩ dX12_count_104
  refine z_ite (fun q_21 => ?_) (fun q_21 => ?_)
  · subst q_21
    refine z_table C 105 dX12_count_1 (by decide) (by decide) rfl rfl ?_
    refine z_aload_n C 0 dX12_count_105 rfl ?_
    refine z_getI C qX12_111 dX12_count_106 (fun v_22 => ?_)
    exact z_ireturn C ⟨rfl, rfl⟩ dX12_count_109
  refine z_ite (fun q_23 => ?_) (fun q_23 => ?_)
  · subst q_23
    refine z_table C 110 dX12_count_1 (by decide) (by decide) rfl rfl ?_
    refine z_aload_n C 0 dX12_count_110 rfl ?_
    refine z_getI C qX12_247 dX12_count_111 (fun v_24 => ?_)
    exact z_ireturn C ⟨rfl, rfl⟩ dX12_count_114
  refine z_tableO C 115 dX12_count_1 (by have eq_1 := lv_neT (a := 0) q_1 rfl; have eq_4 := lv_neT (a := 1) q_4 rfl; have eq_7 := lv_neT (a := 2) q_7 rfl; have eq_10 := lv_neT (a := 3) q_10 rfl; have eq_12 := lv_neT (a := 4) q_12 rfl; have eq_15 := lv_neT (a := 5) q_15 rfl; have eq_18 := lv_neT (a := 6) q_18 rfl; have eq_21 := lv_neT (a := 7) q_21 rfl; have eq_23 := lv_neT (a := 8) q_23 rfl; omega) rfl ?_
  refine z_bipush (v := (-2 : Int32)) C dX12_count_115 rfl ?_
  exact z_ireturn C ⟨rfl, rfl⟩ dX12_count_117
def fX12_isTape (N : Nat) (h : AH) (x0 : Int32) : Option (Int32 × AH) :=
  zcall (fX12_isIn N h x0 (0 : Int32) (5 : Int32)) fun v_2 h_1 =>
  zret .boolean v_2 h_1
theorem kX12_isTape {l : Launch} {g : zG} (N : Nat) (h : AH) (x0 : Int32) : zM l g yX12_isTape cX12_isTape 1 (some .boolean) (2) 0 0 (fun v : Int32 => some (.int v)) (fX12_isTape N h x0) h [.int x0] := by
  refine zM.of (lv0 := [(0, .int x0)]) (by decide) (Nat.le_of_ble_eq_true rfl) rfl (fun X hX C => ?_)
  subst hX
  unfold fX12_isTape
  refine z_iload_n C 0 dX12_isTape_0 rfl ?_
  refine z_iconst (v := (0 : Int32)) C dX12_isTape_1 rfl ?_
  refine z_iconst (v := (5 : Int32)) C dX12_isTape_2 rfl ?_
  refine z_calli (z_runS (As := [.int x0, .int (0 : Int32), .int (5 : Int32)]) (rest := []) C mX12_76 (kX12_isIn N h x0 (0 : Int32) (5 : Int32)) (Nat.le_of_ble_eq_true rfl) ⟨Nat.zero_le _, Nat.zero_le _⟩ dX12_isTape_3 rfl rfl (Nat.le_of_ble_eq_true rfl)) rfl (fun v_2 h_1 => ?_)
  exact z_zreturn C ⟨rfl, rfl⟩ dX12_isTape_6
def bX12_tape_67 (N : Nat) (r67 : AH → Nat → Int32 → Int32 → Option (Int32 × AH)) (h : AH) (a0 : Nat) (x1 : Int32) (x4 : Int32) : Option (Int32 × AH) :=
  (if (60 : Int32) ≤ x4 then
  some ((1 : Int32), h)
  else
  (zgR h a0 12 26).bind fun a_1 =>
  (zlast h a_1 (((60 : Int32) * x1) + x4) (0 : Int64)).bind fun h_2 =>
  r67 h_2 a0 x1 (x4 + (1 : Int32)))
theorem tX12_tape_67 {X : zX} {g : zG} (C : zC X g yX12_tape cX12_tape 5 3 0 0 (some .int)) (N : Nat) (n : Nat) : ∀ (h : AH) (a0 : Nat) (x1 : Int32) (x4 : Int32), ZZ X g 5 (0, 0, 0, 0) (fun v : Int32 => some (.int v)) (zfix (fun _ _ _ _ => none) (bX12_tape_67 N) n h a0 x1 x4) h 67 [(0, .ref a0), (1, .int x1), (4, .int x4)] [] := by
  induction n with
  | zero => intro h a0 x1 x4; exact z_none
  | succ n hr67 =>
    intro h a0 x1 x4
    show ZZ X g 5 (0, 0, 0, 0) _ (bX12_tape_67 N (zfix (fun _ _ _ _ => none) (bX12_tape_67 N) n) h a0 x1 x4) h 67 _ _
    unfold bX12_tape_67
    refine z_iload C 2 dX12_tape_67 rfl ?_
    refine z_bipush (v := (60 : Int32)) C dX12_tape_69 rfl ?_
    refine z_icmpge C 93 dX12_tape_71 rfl ?_ ?_
    · refine z_iconst (v := (1 : Int32)) C dX12_tape_93 rfl ?_
      exact z_ireturn C ⟨rfl, rfl⟩ dX12_tape_94
    · refine z_aload_n C 0 dX12_tape_74 rfl ?_
      refine z_getR C qX12_61 dX12_tape_75 (fun a_1 => ?_)
      refine z_bipush (v := (60 : Int32)) C dX12_tape_78 rfl ?_
      refine z_iload_n C 1 dX12_tape_80 rfl ?_
      refine z_imul C dX12_tape_81 ?_
      refine z_iload C 2 dX12_tape_82 rfl ?_
      refine z_iadd C dX12_tape_84 ?_
      refine z_lconst (v := (0 : Int64)) C dX12_tape_85 rfl ?_
      refine z_lastore C dX12_tape_86 (fun h_2 => ?_)
      refine z_iinc (v := x4 + (1 : Int32)) C 2 dX12_tape_87 [(4, .int (x4 + (1 : Int32))), (0, .ref a0), (1, .int x1)] rfl rfl (by decide) rfl ?_
      refine z_goto C 67 dX12_tape_90 rfl ?_
      exact z_lv _ [1, 2, 0] rfl (hr67 _ a0 x1 (x4 + (1 : Int32)))
def bX12_tape_42 (N : Nat) (h : AH) (a0 : Nat) (x1 : Int32) (x2 : Int32) (x3 : Int32) : Option (Int32 × AH) :=
  (zgR h a0 12 24).bind fun a_1 =>
  (zast 0 h a_1 x1 x2).bind fun h_2 =>
  (zgR h_2 a0 12 25).bind fun a_3 =>
  (if (0) ≤ x2 then
  (zast 0 h_2 a_3 x1 x3).bind fun h_4 =>
  zfix (fun _ _ _ _ => none) (bX12_tape_67 N) N h_4 a0 x1 (0 : Int32)
  else
  (zast 0 h_2 a_3 x1 (0 : Int32)).bind fun h_5 =>
  zfix (fun _ _ _ _ => none) (bX12_tape_67 N) N h_5 a0 x1 (0 : Int32))
theorem tX12_tape_42 {X : zX} {g : zG} (C : zC X g yX12_tape cX12_tape 5 3 0 0 (some .int)) (N : Nat) (h : AH) (a0 : Nat) (x1 : Int32) (x2 : Int32) (x3 : Int32) : ZZ X g 5 (0, 0, 0, 0) (fun v : Int32 => some (.int v)) (bX12_tape_42 N h a0 x1 x2 x3) h 42 [(0, .ref a0), (1, .int x1), (2, .int x2), (3, .int x3)] [] := by
  unfold bX12_tape_42
  refine z_aload_n C 0 dX12_tape_42 rfl ?_
  refine z_getR C qX12_55 dX12_tape_43 (fun a_1 => ?_)
  refine z_iload_n C 1 dX12_tape_46 rfl ?_
  refine z_iload_n C 2 dX12_tape_47 rfl ?_
  refine z_iastore C dX12_tape_48 (fun h_2 => ?_)
  refine z_aload_n C 0 dX12_tape_49 rfl ?_
  refine z_getR C qX12_58 dX12_tape_50 (fun a_3 => ?_)
  refine z_iload_n C 1 dX12_tape_53 rfl ?_
  refine z_iload_n C 2 dX12_tape_54 rfl ?_
  refine z_ifge C 62 dX12_tape_55 rfl ?_ ?_
  · refine z_iload_n C 3 dX12_tape_62 rfl ?_
    refine z_iastore C dX12_tape_63 (fun h_4 => ?_)
    refine z_iconst (v := (0 : Int32)) C dX12_tape_64 rfl ?_
    refine z_istore C dX12_tape_65 [(4, .int (0 : Int32)), (0, .ref a0), (1, .int x1), (2, .int x2), (3, .int x3)] (by decide) rfl ?_
    exact z_lv _ [1, 2, 0] rfl (tX12_tape_67 C N N _ a0 x1 (0 : Int32))
  · refine z_iconst (v := (0 : Int32)) C dX12_tape_58 rfl ?_
    refine z_goto C 63 dX12_tape_59 rfl ?_
    refine z_iastore C dX12_tape_63 (fun h_5 => ?_)
    refine z_iconst (v := (0 : Int32)) C dX12_tape_64 rfl ?_
    refine z_istore C dX12_tape_65 [(4, .int (0 : Int32)), (0, .ref a0), (1, .int x1), (2, .int x2), (3, .int x3)] (by decide) rfl ?_
    exact z_lv _ [1, 2, 0] rfl (tX12_tape_67 C N N _ a0 x1 (0 : Int32))
def bX12_tape_31 (N : Nat) (h : AH) (a0 : Nat) (x1 : Int32) (x2 : Int32) (x3 : Int32) : Option (Int32 × AH) :=
  (if x2 < (0) then
  bX12_tape_42 N h a0 x1 x2 x3
  else
  (if (0) ≤ x3 then
  bX12_tape_42 N h a0 x1 x2 x3
  else
  some ((-14 : Int32), h)))
theorem tX12_tape_31 {X : zX} {g : zG} (C : zC X g yX12_tape cX12_tape 5 3 0 0 (some .int)) (N : Nat) (h : AH) (a0 : Nat) (x1 : Int32) (x2 : Int32) (x3 : Int32) : ZZ X g 5 (0, 0, 0, 0) (fun v : Int32 => some (.int v)) (bX12_tape_31 N h a0 x1 x2 x3) h 31 [(0, .ref a0), (1, .int x1), (2, .int x2), (3, .int x3)] [] := by
  unfold bX12_tape_31
  refine z_iload_n C 2 dX12_tape_31 rfl ?_
  refine z_iflt C 42 dX12_tape_32 rfl ?_ ?_
  · exact z_lv _ [0, 1, 2, 3] rfl (tX12_tape_42 C N _ a0 x1 x2 x3)
  · refine z_iload_n C 3 dX12_tape_35 rfl ?_
    refine z_ifge C 42 dX12_tape_36 rfl ?_ ?_
    · exact z_lv _ [0, 1, 2, 3] rfl (tX12_tape_42 C N _ a0 x1 x2 x3)
    · refine z_bipush (v := (-14 : Int32)) C dX12_tape_39 rfl ?_
      exact z_ireturn C ⟨rfl, rfl⟩ dX12_tape_41
def fX12_tape (N : Nat) (h : AH) (a0 : Nat) (x1 : Int32) (x2 : Int32) (x3 : Int32) : Option (Int32 × AH) :=
  zcall (fX12_isTape N h x1) fun v_2 h_1 =>
  (if v_2 = (0) then
  some ((-1 : Int32), h_1)
  else
  zcall (fX12_isIn N h_1 x2 (-1 : Int32) (4 : Int32)) fun v_4 h_3 =>
  (if v_4 = (0) then
  some ((-2 : Int32), h_3)
  else
  (if x2 < (0) then
  bX12_tape_31 N h_3 a0 x1 x2 x3
  else
  (if x3 ≤ (60 : Int32) then
  bX12_tape_31 N h_3 a0 x1 x2 x3
  else
  some ((-2 : Int32), h_3)))))
theorem kX12_tape {l : Launch} {g : zG} (N : Nat) (h : AH) (a0 : Nat) (x1 : Int32) (x2 : Int32) (x3 : Int32) : zM l g yX12_tape cX12_tape 5 (some .int) (3) 0 0 (fun v : Int32 => some (.int v)) (fX12_tape N h a0 x1 x2 x3) h [.ref a0, .int x1, .int x2, .int x3] := by
  refine zM.of (lv0 := [(0, .ref a0), (1, .int x1), (2, .int x2), (3, .int x3)]) (by decide) (Nat.le_of_ble_eq_true rfl) rfl (fun X hX C => ?_)
  subst hX
  unfold fX12_tape
  refine z_iload_n C 1 dX12_tape_0 rfl ?_
  refine z_calli (z_runS (As := [.int x1]) (rest := []) C mX12_263 (kX12_isTape N h x1) (Nat.le_of_ble_eq_true rfl) ⟨Nat.zero_le _, Nat.zero_le _⟩ dX12_tape_1 rfl rfl (Nat.le_of_ble_eq_true rfl)) rfl (fun v_2 h_1 => ?_)
  refine z_ifne C 9 dX12_tape_4 rfl ?_ ?_
  · refine z_iload_n C 2 dX12_tape_9 rfl ?_
    refine z_iconst (v := (-1 : Int32)) C dX12_tape_10 rfl ?_
    refine z_iconst (v := (4 : Int32)) C dX12_tape_11 rfl ?_
    refine z_calli (z_runS (As := [.int x2, .int (-1 : Int32), .int (4 : Int32)]) (rest := []) C mX12_76 (kX12_isIn N h_1 x2 (-1 : Int32) (4 : Int32)) (Nat.le_of_ble_eq_true rfl) ⟨Nat.zero_le _, Nat.zero_le _⟩ dX12_tape_12 rfl rfl (Nat.le_of_ble_eq_true rfl)) rfl (fun v_4 h_3 => ?_)
    refine z_ifeq C 28 dX12_tape_15 rfl ?_ ?_
    · refine z_bipush (v := (-2 : Int32)) C dX12_tape_28 rfl ?_
      exact z_ireturn C ⟨rfl, rfl⟩ dX12_tape_30
    · refine z_iload_n C 2 dX12_tape_18 rfl ?_
      refine z_iflt C 31 dX12_tape_19 rfl ?_ ?_
      · exact z_lv _ [0, 1, 2, 3] rfl (tX12_tape_31 C N _ a0 x1 x2 x3)
      · refine z_iload_n C 3 dX12_tape_22 rfl ?_
        refine z_bipush (v := (60 : Int32)) C dX12_tape_23 rfl ?_
        refine z_icmple C 31 dX12_tape_25 rfl ?_ ?_
        · exact z_lv _ [0, 1, 2, 3] rfl (tX12_tape_31 C N _ a0 x1 x2 x3)
        · refine z_bipush (v := (-2 : Int32)) C dX12_tape_28 rfl ?_
          exact z_ireturn C ⟨rfl, rfl⟩ dX12_tape_30
  · refine z_iconst (v := (-1 : Int32)) C dX12_tape_7 rfl ?_
    exact z_ireturn C ⟨rfl, rfl⟩ dX12_tape_8
def fX12_item (N : Nat) (h : AH) (a0 : Nat) (x1 : Int32) (x2 : Int32) (x3 : Int64) : Option (Int32 × AH) :=
  zcall (fX12_isTape N h x1) fun v_2 h_1 =>
  (if v_2 = (0) then
  some ((-1 : Int32), h_1)
  else
  (zgR h_1 a0 12 24).bind fun a_3 =>
  (zald 0 h_1 a_3 x1).bind fun v_4 =>
  (if (0) ≤ v_4 then
  (zgR h_1 a0 12 25).bind fun a_5 =>
  (zald 0 h_1 a_5 x1).bind fun v_6 =>
  zcall (fX12_isIn N h_1 x2 (0 : Int32) (v_6 - (1 : Int32))) fun v_8 h_7 =>
  (if v_8 = (0) then
  some ((-13 : Int32), h_7)
  else
  (zgR h_7 a0 12 24).bind fun a_9 =>
  (zald 0 h_7 a_9 x1).bind fun v_10 =>
  (zgR h_7 a0 12 26).bind fun a_11 =>
  (if v_10 = (0) then
  (zlast h_7 a_11 (((60 : Int32) * x1) + x2) (((x3.toInt32).toInt8.toInt32).toInt64)).bind fun h_17 =>
  some ((1 : Int32), h_17)
  else
  (if v_10 = (1 : Int32) then
  (zlast h_7 a_11 (((60 : Int32) * x1) + x2) (((x3.toInt32).toInt16.toInt32).toInt64)).bind fun h_16 =>
  some ((1 : Int32), h_16)
  else
  (if v_10 = (2 : Int32) then
  (zlast h_7 a_11 (((60 : Int32) * x1) + x2) ((x3.toInt32).toInt64)).bind fun h_15 =>
  some ((1 : Int32), h_15)
  else
  (if v_10 = (3 : Int32) then
  (zlast h_7 a_11 (((60 : Int32) * x1) + x2) x3).bind fun h_14 =>
  some ((1 : Int32), h_14)
  else
  (if (lg_cmp x3 (0 : Int64)) = (0) then
  (zlast h_7 a_11 (((60 : Int32) * x1) + x2) (0 : Int64)).bind fun h_12 =>
  some ((1 : Int32), h_12)
  else
  (zlast h_7 a_11 (((60 : Int32) * x1) + x2) (1 : Int64)).bind fun h_13 =>
  some ((1 : Int32), h_13)))))))
  else
  some ((-11 : Int32), h_1)))
theorem kX12_item {l : Launch} {g : zG} (N : Nat) (h : AH) (a0 : Nat) (x1 : Int32) (x2 : Int32) (x3 : Int64) : zM l g yX12_item cX12_item 6 (some .int) (3) 0 0 (fun v : Int32 => some (.int v)) (fX12_item N h a0 x1 x2 x3) h [.ref a0, .int x1, .int x2, .long x3] := by
  refine zM.of (lv0 := [(0, .ref a0), (1, .int x1), (2, .int x2), (3, .long x3)]) (by decide) (Nat.le_of_ble_eq_true rfl) rfl (fun X hX C => ?_)
  subst hX
  unfold fX12_item
  refine z_iload_n C 1 dX12_item_0 rfl ?_
  refine z_calli (z_runS (As := [.int x1]) (rest := []) C mX12_263 (kX12_isTape N h x1) (Nat.le_of_ble_eq_true rfl) ⟨Nat.zero_le _, Nat.zero_le _⟩ dX12_item_1 rfl rfl (Nat.le_of_ble_eq_true rfl)) rfl (fun v_2 h_1 => ?_)
  refine z_ifne C 9 dX12_item_4 rfl ?_ ?_
  · refine z_aload_n C 0 dX12_item_9 rfl ?_
    refine z_getR C qX12_55 dX12_item_10 (fun a_3 => ?_)
    refine z_iload_n C 1 dX12_item_13 rfl ?_
    refine z_iaload C dX12_item_14 (fun v_4 => ?_)
    refine z_ifge C 21 dX12_item_15 rfl ?_ ?_
    · refine z_iload_n C 2 dX12_item_21 rfl ?_
      refine z_iconst (v := (0 : Int32)) C dX12_item_22 rfl ?_
      refine z_aload_n C 0 dX12_item_23 rfl ?_
      refine z_getR C qX12_58 dX12_item_24 (fun a_5 => ?_)
      refine z_iload_n C 1 dX12_item_27 rfl ?_
      refine z_iaload C dX12_item_28 (fun v_6 => ?_)
      refine z_iconst (v := (1 : Int32)) C dX12_item_29 rfl ?_
      refine z_isub C dX12_item_30 ?_
      refine z_calli (z_runS (As := [.int x2, .int (0 : Int32), .int (v_6 - (1 : Int32))]) (rest := []) C mX12_76 (kX12_isIn N h_1 x2 (0 : Int32) (v_6 - (1 : Int32))) (Nat.le_of_ble_eq_true rfl) ⟨Nat.zero_le _, Nat.zero_le _⟩ dX12_item_31 rfl rfl (Nat.le_of_ble_eq_true rfl)) rfl (fun v_8 h_7 => ?_)
      refine z_ifne C 40 dX12_item_34 rfl ?_ ?_
      · refine z_aload_n C 0 dX12_item_40 rfl ?_
        refine z_getR C qX12_55 dX12_item_41 (fun a_9 => ?_)
        refine z_iload_n C 1 dX12_item_44 rfl ?_
        refine z_iaload C dX12_item_45 (fun v_10 => ?_)
        refine z_istore C dX12_item_46 [(5, .int v_10), (0, .ref a0), (1, .int x1), (2, .int x2), (3, .long x3)] (by decide) rfl ?_
        refine z_aload_n C 1 dX12_item_48 rfl ?_
        refine z_getR C qX12_61 dX12_item_49 (fun a_11 => ?_)
        refine z_bipush (v := (60 : Int32)) C dX12_item_52 rfl ?_
        refine z_iload_n C 2 dX12_item_54 rfl ?_
        refine z_imul C dX12_item_55 ?_
        refine z_iload_n C 3 dX12_item_56 rfl ?_
        refine z_iadd C dX12_item_57 ?_
        refine z_iload C 0 dX12_item_58 rfl ?_
        refine z_ifne C 70 dX12_item_60 rfl ?_ ?_
        · refine z_iload C 0 dX12_item_70 rfl ?_
          refine z_iconst (v := (1 : Int32)) C dX12_item_72 rfl ?_
          refine z_icmpne C 83 dX12_item_73 rfl ?_ ?_
          · refine z_iload C 0 dX12_item_83 rfl ?_
            refine z_iconst (v := (2 : Int32)) C dX12_item_85 rfl ?_
            refine z_icmpne C 95 dX12_item_86 rfl ?_ ?_
            · refine z_iload C 0 dX12_item_95 rfl ?_
              refine z_iconst (v := (3 : Int32)) C dX12_item_97 rfl ?_
              refine z_icmpne C 105 dX12_item_98 rfl ?_ ?_
              · refine z_lload_n C 4 dX12_item_105 rfl ?_
                refine z_lconst (v := (0 : Int64)) C dX12_item_106 rfl ?_
                refine z_lcmp C dX12_item_107 ?_
                refine z_ifeq C 115 dX12_item_108 rfl ?_ ?_
                · refine z_lconst (v := (0 : Int64)) C dX12_item_115 rfl ?_
                  refine z_lastore C dX12_item_116 (fun h_12 => ?_)
                  refine z_iconst (v := (1 : Int32)) C dX12_item_117 rfl ?_
                  exact z_ireturn C ⟨rfl, rfl⟩ dX12_item_118
                · refine z_lconst (v := (1 : Int64)) C dX12_item_111 rfl ?_
                  refine z_goto C 116 dX12_item_112 rfl ?_
                  refine z_lastore C dX12_item_116 (fun h_13 => ?_)
                  refine z_iconst (v := (1 : Int32)) C dX12_item_117 rfl ?_
                  exact z_ireturn C ⟨rfl, rfl⟩ dX12_item_118
              · refine z_lload_n C 4 dX12_item_101 rfl ?_
                refine z_goto C 116 dX12_item_102 rfl ?_
                refine z_lastore C dX12_item_116 (fun h_14 => ?_)
                refine z_iconst (v := (1 : Int32)) C dX12_item_117 rfl ?_
                exact z_ireturn C ⟨rfl, rfl⟩ dX12_item_118
            · refine z_lload_n C 4 dX12_item_89 rfl ?_
              refine z_l2i C dX12_item_90 ?_
              refine z_i2l C dX12_item_91 ?_
              refine z_goto C 116 dX12_item_92 rfl ?_
              refine z_lastore C dX12_item_116 (fun h_15 => ?_)
              refine z_iconst (v := (1 : Int32)) C dX12_item_117 rfl ?_
              exact z_ireturn C ⟨rfl, rfl⟩ dX12_item_118
          · refine z_lload_n C 4 dX12_item_76 rfl ?_
            refine z_l2i C dX12_item_77 ?_
            refine z_i2s C dX12_item_78 ?_
            refine z_i2l C dX12_item_79 ?_
            refine z_goto C 116 dX12_item_80 rfl ?_
            refine z_lastore C dX12_item_116 (fun h_16 => ?_)
            refine z_iconst (v := (1 : Int32)) C dX12_item_117 rfl ?_
            exact z_ireturn C ⟨rfl, rfl⟩ dX12_item_118
        · refine z_lload_n C 4 dX12_item_63 rfl ?_
          refine z_l2i C dX12_item_64 ?_
          refine z_i2b C dX12_item_65 ?_
          refine z_i2l C dX12_item_66 ?_
          refine z_goto C 116 dX12_item_67 rfl ?_
          refine z_lastore C dX12_item_116 (fun h_17 => ?_)
          refine z_iconst (v := (1 : Int32)) C dX12_item_117 rfl ?_
          exact z_ireturn C ⟨rfl, rfl⟩ dX12_item_118
      · refine z_bipush (v := (-13 : Int32)) C dX12_item_37 rfl ?_
        exact z_ireturn C ⟨rfl, rfl⟩ dX12_item_39
    · refine z_bipush (v := (-11 : Int32)) C dX12_item_18 rfl ?_
      exact z_ireturn C ⟨rfl, rfl⟩ dX12_item_20
  · refine z_iconst (v := (-1 : Int32)) C dX12_item_7 rfl ?_
    exact z_ireturn C ⟨rfl, rfl⟩ dX12_item_8
def fX12_read (N : Nat) (h : AH) (a0 : Nat) (x1 : Int32) (x2 : Int32) : Option (Int64 × AH) :=
  zcall (fX12_isTape N h x1) fun v_2 h_1 =>
  (if v_2 = (0) then
  some ((-9223372036854775808 : Int64), h_1)
  else
  (zgR h_1 a0 12 25).bind fun a_3 =>
  (zald 0 h_1 a_3 x1).bind fun v_4 =>
  zcall (fX12_isIn N h_1 x2 (0 : Int32) (v_4 - (1 : Int32))) fun v_6 h_5 =>
  (if v_6 = (0) then
  some ((-9223372036854775808 : Int64), h_5)
  else
  (zgR h_5 a0 12 26).bind fun a_7 =>
  (zlald h_5 a_7 (((60 : Int32) * x1) + x2)).bind fun v_8 =>
  some (v_8, h_5)))
theorem kX12_read {l : Launch} {g : zG} (N : Nat) (h : AH) (a0 : Nat) (x1 : Int32) (x2 : Int32) : zM l g yX12_read cX12_read 3 (some .long) (3) 0 0 (fun v : Int64 => some (.long v)) (fX12_read N h a0 x1 x2) h [.ref a0, .int x1, .int x2] := by
  refine zM.of (lv0 := [(0, .ref a0), (1, .int x1), (2, .int x2)]) (by decide) (Nat.le_of_ble_eq_true rfl) rfl (fun X hX C => ?_)
  subst hX
  unfold fX12_read
  refine z_iload_n C 1 dX12_read_0 rfl ?_
  refine z_calli (z_runS (As := [.int x1]) (rest := []) C mX12_263 (kX12_isTape N h x1) (Nat.le_of_ble_eq_true rfl) ⟨Nat.zero_le _, Nat.zero_le _⟩ dX12_read_1 rfl rfl (Nat.le_of_ble_eq_true rfl)) rfl (fun v_2 h_1 => ?_)
  refine z_ifeq C 37 dX12_read_4 rfl ?_ ?_
  · refine z_ldc2_w (v := (-9223372036854775808 : Int64)) C dX12_read_37 (tblG_at 1355 (by decide +kernel) (by decide +kernel)) ?_
    exact z_lreturn C ⟨rfl, rfl⟩ dX12_read_40
  · refine z_iload_n C 2 dX12_read_7 rfl ?_
    refine z_iconst (v := (0 : Int32)) C dX12_read_8 rfl ?_
    refine z_aload_n C 0 dX12_read_9 rfl ?_
    refine z_getR C qX12_58 dX12_read_10 (fun a_3 => ?_)
    refine z_iload_n C 1 dX12_read_13 rfl ?_
    refine z_iaload C dX12_read_14 (fun v_4 => ?_)
    refine z_iconst (v := (1 : Int32)) C dX12_read_15 rfl ?_
    refine z_isub C dX12_read_16 ?_
    refine z_calli (z_runS (As := [.int x2, .int (0 : Int32), .int (v_4 - (1 : Int32))]) (rest := []) C mX12_76 (kX12_isIn N h_1 x2 (0 : Int32) (v_4 - (1 : Int32))) (Nat.le_of_ble_eq_true rfl) ⟨Nat.zero_le _, Nat.zero_le _⟩ dX12_read_17 rfl rfl (Nat.le_of_ble_eq_true rfl)) rfl (fun v_6 h_5 => ?_)
    refine z_ifeq C 37 dX12_read_20 rfl ?_ ?_
    · refine z_ldc2_w (v := (-9223372036854775808 : Int64)) C dX12_read_37 (tblG_at 1355 (by decide +kernel) (by decide +kernel)) ?_
      exact z_lreturn C ⟨rfl, rfl⟩ dX12_read_40
    · refine z_aload_n C 0 dX12_read_23 rfl ?_
      refine z_getR C qX12_61 dX12_read_24 (fun a_7 => ?_)
      refine z_bipush (v := (60 : Int32)) C dX12_read_27 rfl ?_
      refine z_iload_n C 1 dX12_read_29 rfl ?_
      refine z_imul C dX12_read_30 ?_
      refine z_iload_n C 2 dX12_read_31 rfl ?_
      refine z_iadd C dX12_read_32 ?_
      refine z_laload C dX12_read_33 (fun v_8 => ?_)
      refine z_goto C 40 dX12_read_34 rfl ?_
      exact z_lreturn C ⟨rfl, rfl⟩ dX12_read_40
def bX12_shift_139 (N : Nat) (r139 : AH → Nat → Int32 → Int32 → Int32 → Int32 → Option (Int32 × AH)) (h : AH) (a0 : Nat) (x3 : Int32) (x4 : Int32) (x5 : Int32) (x6 : Int32) : Option (Int32 × AH) :=
  (if x5 ≤ x6 then
  some (x5, h)
  else
  (zgR h a0 12 26).bind fun a_1 =>
  (zgR h a0 12 27).bind fun a_2 =>
  (zlald h a_2 x6).bind fun v_3 =>
  (zlast h a_1 ((((60 : Int32) * x3) + x4) + x6) v_3).bind fun h_4 =>
  r139 h_4 a0 x3 x4 x5 (x6 + (1 : Int32)))
theorem tX12_shift_139 {X : zX} {g : zG} (C : zC X g yX12_shift cX12_shift 7 3 0 0 (some .int)) (N : Nat) (n : Nat) : ∀ (h : AH) (a0 : Nat) (x3 : Int32) (x4 : Int32) (x5 : Int32) (x6 : Int32), ZZ X g 7 (0, 0, 0, 0) (fun v : Int32 => some (.int v)) (zfix (fun _ _ _ _ _ _ => none) (bX12_shift_139 N) n h a0 x3 x4 x5 x6) h 139 [(0, .ref a0), (3, .int x3), (4, .int x4), (5, .int x5), (6, .int x6)] [] := by
  induction n with
  | zero => intro h a0 x3 x4 x5 x6; exact z_none
  | succ n hr139 =>
    intro h a0 x3 x4 x5 x6
    show ZZ X g 7 (0, 0, 0, 0) _ (bX12_shift_139 N (zfix (fun _ _ _ _ _ _ => none) (bX12_shift_139 N) n) h a0 x3 x4 x5 x6) h 139 _ _
    unfold bX12_shift_139
    refine z_iload C 4 dX12_shift_139 rfl ?_
    refine z_iload C 3 dX12_shift_141 rfl ?_
    refine z_icmpge C 174 dX12_shift_143 rfl ?_ ?_
    · refine z_iload C 3 dX12_shift_174 rfl ?_
      exact z_ireturn C ⟨rfl, rfl⟩ dX12_shift_176
    · refine z_aload_n C 0 dX12_shift_146 rfl ?_
      refine z_getR C qX12_61 dX12_shift_147 (fun a_1 => ?_)
      refine z_bipush (v := (60 : Int32)) C dX12_shift_150 rfl ?_
      refine z_iload_n C 1 dX12_shift_152 rfl ?_
      refine z_imul C dX12_shift_153 ?_
      refine z_iload C 2 dX12_shift_154 rfl ?_
      refine z_iadd C dX12_shift_156 ?_
      refine z_iload C 4 dX12_shift_157 rfl ?_
      refine z_iadd C dX12_shift_159 ?_
      refine z_aload_n C 0 dX12_shift_160 rfl ?_
      refine z_getR C qX12_65 dX12_shift_161 (fun a_2 => ?_)
      refine z_iload C 4 dX12_shift_164 rfl ?_
      refine z_laload C dX12_shift_166 (fun v_3 => ?_)
      refine z_lastore C dX12_shift_167 (fun h_4 => ?_)
      refine z_iinc (v := x6 + (1 : Int32)) C 4 dX12_shift_168 [(6, .int (x6 + (1 : Int32))), (0, .ref a0), (3, .int x3), (4, .int x4), (5, .int x5)] rfl rfl (by decide) rfl ?_
      refine z_goto C 139 dX12_shift_171 rfl ?_
      exact z_lv _ [1, 2, 3, 4, 0] rfl (hr139 _ a0 x3 x4 x5 (x6 + (1 : Int32)))
def bX12_shift_102 (N : Nat) (r102 : AH → Nat → Int32 → Int32 → Int32 → Int32 → Int32 → Int32 → Option (Int32 × AH)) (h : AH) (a0 : Nat) (x1 : Int32) (x2 : Int32) (x3 : Int32) (x4 : Int32) (x5 : Int32) (x6 : Int32) : Option (Int32 × AH) :=
  (if x5 ≤ x6 then
  zfix (fun _ _ _ _ _ _ => none) (bX12_shift_139 N) N h a0 x3 x4 x5 (0 : Int32)
  else
  (zgR h a0 12 27).bind fun a_1 =>
  (zgR h a0 12 26).bind fun a_2 =>
  (zlald h a_2 ((((60 : Int32) * x1) + x2) + x6)).bind fun v_3 =>
  (zlast h a_1 x6 v_3).bind fun h_4 =>
  r102 h_4 a0 x1 x2 x3 x4 x5 (x6 + (1 : Int32)))
theorem tX12_shift_102 {X : zX} {g : zG} (C : zC X g yX12_shift cX12_shift 7 3 0 0 (some .int)) (N : Nat) (n : Nat) : ∀ (h : AH) (a0 : Nat) (x1 : Int32) (x2 : Int32) (x3 : Int32) (x4 : Int32) (x5 : Int32) (x6 : Int32), ZZ X g 7 (0, 0, 0, 0) (fun v : Int32 => some (.int v)) (zfix (fun _ _ _ _ _ _ _ _ => none) (bX12_shift_102 N) n h a0 x1 x2 x3 x4 x5 x6) h 102 [(0, .ref a0), (1, .int x1), (2, .int x2), (3, .int x3), (4, .int x4), (5, .int x5), (6, .int x6)] [] := by
  induction n with
  | zero => intro h a0 x1 x2 x3 x4 x5 x6; exact z_none
  | succ n hr102 =>
    intro h a0 x1 x2 x3 x4 x5 x6
    show ZZ X g 7 (0, 0, 0, 0) _ (bX12_shift_102 N (zfix (fun _ _ _ _ _ _ _ _ => none) (bX12_shift_102 N) n) h a0 x1 x2 x3 x4 x5 x6) h 102 _ _
    unfold bX12_shift_102
    refine z_iload C 6 dX12_shift_102 rfl ?_
    refine z_iload C 5 dX12_shift_104 rfl ?_
    refine z_icmpge C 136 dX12_shift_106 rfl ?_ ?_
    · refine z_iconst (v := (0 : Int32)) C dX12_shift_136 rfl ?_
      refine z_istore C dX12_shift_137 [(6, .int (0 : Int32)), (0, .ref a0), (1, .int x1), (2, .int x2), (3, .int x3), (4, .int x4), (5, .int x5)] (by decide) rfl ?_
      exact z_lv _ [1, 4, 5, 6, 0] rfl (tX12_shift_139 C N N _ a0 x3 x4 x5 (0 : Int32))
    · refine z_aload_n C 0 dX12_shift_109 rfl ?_
      refine z_getR C qX12_65 dX12_shift_110 (fun a_1 => ?_)
      refine z_iload C 6 dX12_shift_113 rfl ?_
      refine z_aload_n C 0 dX12_shift_115 rfl ?_
      refine z_getR C qX12_61 dX12_shift_116 (fun a_2 => ?_)
      refine z_bipush (v := (60 : Int32)) C dX12_shift_119 rfl ?_
      refine z_iload_n C 1 dX12_shift_121 rfl ?_
      refine z_imul C dX12_shift_122 ?_
      refine z_iload_n C 2 dX12_shift_123 rfl ?_
      refine z_iadd C dX12_shift_124 ?_
      refine z_iload C 6 dX12_shift_125 rfl ?_
      refine z_iadd C dX12_shift_127 ?_
      refine z_laload C dX12_shift_128 (fun v_3 => ?_)
      refine z_lastore C dX12_shift_129 (fun h_4 => ?_)
      refine z_iinc (v := x6 + (1 : Int32)) C 6 dX12_shift_130 [(6, .int (x6 + (1 : Int32))), (0, .ref a0), (1, .int x1), (2, .int x2), (3, .int x3), (4, .int x4), (5, .int x5)] rfl rfl (by decide) rfl ?_
      refine z_goto C 102 dX12_shift_133 rfl ?_
      exact z_lv _ [1, 2, 3, 4, 5, 6, 0] rfl (hr102 _ a0 x1 x2 x3 x4 x5 (x6 + (1 : Int32)))
def fX12_shift (N : Nat) (h : AH) (a0 : Nat) (x1 : Int32) (x2 : Int32) (x3 : Int32) (x4 : Int32) (x5 : Int32) : Option (Int32 × AH) :=
  zcall (fX12_isTape N h x1) fun v_2 h_1 =>
  (if v_2 = (0) then
  some ((-1 : Int32), h_1)
  else
  zcall (fX12_isTape N h_1 x3) fun v_4 h_3 =>
  (if v_4 = (0) then
  some ((-1 : Int32), h_3)
  else
  (zgR h_3 a0 12 24).bind fun a_5 =>
  (zald 0 h_3 a_5 x1).bind fun v_6 =>
  (if v_6 < (0) then
  some ((-11 : Int32), h_3)
  else
  (zgR h_3 a0 12 24).bind fun a_7 =>
  (zald 0 h_3 a_7 x3).bind fun v_8 =>
  (if (0) ≤ v_8 then
  (zgR h_3 a0 12 24).bind fun a_9 =>
  (zald 0 h_3 a_9 x1).bind fun v_10 =>
  (zgR h_3 a0 12 24).bind fun a_11 =>
  (zald 0 h_3 a_11 x3).bind fun v_12 =>
  (if v_10 = v_12 then
  (if x5 < (0) then
  some ((-13 : Int32), h_3)
  else
  (if x2 < (0) then
  some ((-13 : Int32), h_3)
  else
  (if x4 < (0) then
  some ((-13 : Int32), h_3)
  else
  (zgR h_3 a0 12 25).bind fun a_13 =>
  (zald 0 h_3 a_13 x1).bind fun v_14 =>
  (if (v_14 - x2) < x5 then
  some ((-13 : Int32), h_3)
  else
  (zgR h_3 a0 12 25).bind fun a_15 =>
  (zald 0 h_3 a_15 x3).bind fun v_16 =>
  (if x5 ≤ (v_16 - x4) then
  zfix (fun _ _ _ _ _ _ _ _ => none) (bX12_shift_102 N) N h_3 a0 x1 x2 x3 x4 x5 (0 : Int32)
  else
  some ((-13 : Int32), h_3))))))
  else
  some ((-12 : Int32), h_3))
  else
  some ((-11 : Int32), h_3)))))
theorem kX12_shift {l : Launch} {g : zG} (N : Nat) (h : AH) (a0 : Nat) (x1 : Int32) (x2 : Int32) (x3 : Int32) (x4 : Int32) (x5 : Int32) : zM l g yX12_shift cX12_shift 7 (some .int) (3) 0 0 (fun v : Int32 => some (.int v)) (fX12_shift N h a0 x1 x2 x3 x4 x5) h [.ref a0, .int x1, .int x2, .int x3, .int x4, .int x5] := by
  refine zM.of (lv0 := [(0, .ref a0), (1, .int x1), (2, .int x2), (3, .int x3), (4, .int x4), (5, .int x5)]) (by decide) (Nat.le_of_ble_eq_true rfl) rfl (fun X hX C => ?_)
  subst hX
  unfold fX12_shift
  refine z_iload_n C 1 dX12_shift_0 rfl ?_
  refine z_calli (z_runS (As := [.int x1]) (rest := []) C mX12_263 (kX12_isTape N h x1) (Nat.le_of_ble_eq_true rfl) ⟨Nat.zero_le _, Nat.zero_le _⟩ dX12_shift_1 rfl rfl (Nat.le_of_ble_eq_true rfl)) rfl (fun v_2 h_1 => ?_)
  refine z_ifeq C 14 dX12_shift_4 rfl ?_ ?_
  · refine z_iconst (v := (-1 : Int32)) C dX12_shift_14 rfl ?_
    exact z_ireturn C ⟨rfl, rfl⟩ dX12_shift_15
  · refine z_iload_n C 3 dX12_shift_7 rfl ?_
    refine z_calli (z_runS (As := [.int x3]) (rest := []) C mX12_263 (kX12_isTape N h_1 x3) (Nat.le_of_ble_eq_true rfl) ⟨Nat.zero_le _, Nat.zero_le _⟩ dX12_shift_8 rfl rfl (Nat.le_of_ble_eq_true rfl)) rfl (fun v_4 h_3 => ?_)
    refine z_ifne C 16 dX12_shift_11 rfl ?_ ?_
    · refine z_aload_n C 0 dX12_shift_16 rfl ?_
      refine z_getR C qX12_55 dX12_shift_17 (fun a_5 => ?_)
      refine z_iload_n C 1 dX12_shift_20 rfl ?_
      refine z_iaload C dX12_shift_21 (fun v_6 => ?_)
      refine z_iflt C 34 dX12_shift_22 rfl ?_ ?_
      · refine z_bipush (v := (-11 : Int32)) C dX12_shift_34 rfl ?_
        exact z_ireturn C ⟨rfl, rfl⟩ dX12_shift_36
      · refine z_aload_n C 0 dX12_shift_25 rfl ?_
        refine z_getR C qX12_55 dX12_shift_26 (fun a_7 => ?_)
        refine z_iload_n C 3 dX12_shift_29 rfl ?_
        refine z_iaload C dX12_shift_30 (fun v_8 => ?_)
        refine z_ifge C 37 dX12_shift_31 rfl ?_ ?_
        · refine z_aload_n C 0 dX12_shift_37 rfl ?_
          refine z_getR C qX12_55 dX12_shift_38 (fun a_9 => ?_)
          refine z_iload_n C 1 dX12_shift_41 rfl ?_
          refine z_iaload C dX12_shift_42 (fun v_10 => ?_)
          refine z_aload_n C 0 dX12_shift_43 rfl ?_
          refine z_getR C qX12_55 dX12_shift_44 (fun a_11 => ?_)
          refine z_iload_n C 3 dX12_shift_47 rfl ?_
          refine z_iaload C dX12_shift_48 (fun v_12 => ?_)
          refine z_icmpeq C 55 dX12_shift_49 rfl ?_ ?_
          · refine z_iload C 5 dX12_shift_55 rfl ?_
            refine z_iflt C 96 dX12_shift_57 rfl ?_ ?_
            · refine z_bipush (v := (-13 : Int32)) C dX12_shift_96 rfl ?_
              exact z_ireturn C ⟨rfl, rfl⟩ dX12_shift_98
            · refine z_iload_n C 2 dX12_shift_60 rfl ?_
              refine z_iflt C 96 dX12_shift_61 rfl ?_ ?_
              · refine z_bipush (v := (-13 : Int32)) C dX12_shift_96 rfl ?_
                exact z_ireturn C ⟨rfl, rfl⟩ dX12_shift_98
              · refine z_iload C 4 dX12_shift_64 rfl ?_
                refine z_iflt C 96 dX12_shift_66 rfl ?_ ?_
                · refine z_bipush (v := (-13 : Int32)) C dX12_shift_96 rfl ?_
                  exact z_ireturn C ⟨rfl, rfl⟩ dX12_shift_98
                · refine z_iload C 5 dX12_shift_69 rfl ?_
                  refine z_aload_n C 0 dX12_shift_71 rfl ?_
                  refine z_getR C qX12_58 dX12_shift_72 (fun a_13 => ?_)
                  refine z_iload_n C 1 dX12_shift_75 rfl ?_
                  refine z_iaload C dX12_shift_76 (fun v_14 => ?_)
                  refine z_iload_n C 2 dX12_shift_77 rfl ?_
                  refine z_isub C dX12_shift_78 ?_
                  refine z_icmpgt C 96 dX12_shift_79 rfl ?_ ?_
                  · refine z_bipush (v := (-13 : Int32)) C dX12_shift_96 rfl ?_
                    exact z_ireturn C ⟨rfl, rfl⟩ dX12_shift_98
                  · refine z_iload C 5 dX12_shift_82 rfl ?_
                    refine z_aload_n C 0 dX12_shift_84 rfl ?_
                    refine z_getR C qX12_58 dX12_shift_85 (fun a_15 => ?_)
                    refine z_iload_n C 3 dX12_shift_88 rfl ?_
                    refine z_iaload C dX12_shift_89 (fun v_16 => ?_)
                    refine z_iload C 4 dX12_shift_90 rfl ?_
                    refine z_isub C dX12_shift_92 ?_
                    refine z_icmple C 99 dX12_shift_93 rfl ?_ ?_
                    · refine z_iconst (v := (0 : Int32)) C dX12_shift_99 rfl ?_
                      refine z_istore C dX12_shift_100 [(6, .int (0 : Int32)), (0, .ref a0), (1, .int x1), (2, .int x2), (3, .int x3), (4, .int x4), (5, .int x5)] (by decide) rfl ?_
                      exact z_lv _ [1, 2, 3, 4, 5, 6, 0] rfl (tX12_shift_102 C N N _ a0 x1 x2 x3 x4 x5 (0 : Int32))
                    · refine z_bipush (v := (-13 : Int32)) C dX12_shift_96 rfl ?_
                      exact z_ireturn C ⟨rfl, rfl⟩ dX12_shift_98
          · refine z_bipush (v := (-12 : Int32)) C dX12_shift_52 rfl ?_
            exact z_ireturn C ⟨rfl, rfl⟩ dX12_shift_54
        · refine z_bipush (v := (-11 : Int32)) C dX12_shift_34 rfl ?_
          exact z_ireturn C ⟨rfl, rfl⟩ dX12_shift_36
    · refine z_iconst (v := (-1 : Int32)) C dX12_shift_14 rfl ?_
      exact z_ireturn C ⟨rfl, rfl⟩ dX12_shift_15
def bX12_judge_34 (N : Nat) (r34 : AH → Nat → Int32 → Int32 → Int32 → Option (Int32 × AH)) (h : AH) (a0 : Nat) (x1 : Int32) (x2 : Int32) (x3 : Int32) : Option (Int32 × AH) :=
  (zgR h a0 12 0).bind fun a_1 =>
  (zald 0 h a_1 (76 : Int32)).bind fun v_2 =>
  (if v_2 ≤ x3 then
  some ((-5 : Int32), h)
  else
  znm ((x2.toInt64) + (x3.toInt64)) fun y_3 =>
  (if x2 < (0) then
  some ((100 : Int32) + x3, h)
  else
  (zgR h a0 12 25).bind fun a_4 =>
  (zald 0 h a_4 x1).bind fun v_5 =>
  (if (lg_cmp y_3 (v_5.toInt64)) < (0) then
  (zgR h a0 12 26).bind fun a_6 =>
  (zlald h a_6 (((60 : Int32) * x1) + (y_3.toInt32))).bind fun v_7 =>
  (zis h a0 12).bind fun _ =>
  zcall (fX12_mindOf N h a0 x3) fun v_9 h_8 =>
  (if (lg_cmp v_7 (v_9.toInt64)) = (0) then
  r34 h_8 a0 x1 x2 (x3 + (1 : Int32))
  else
  some (x3, h_8))
  else
  some ((100 : Int32) + x3, h))))
theorem tX12_judge_34 {X : zX} {g : zG} (C : zC X g yX12_judge cX12_judge 6 3 0 0 (some .int)) (N : Nat) (n : Nat) : ∀ (h : AH) (a0 : Nat) (x1 : Int32) (x2 : Int32) (x3 : Int32), ZZ X g 6 (0, 0, 0, 0) (fun v : Int32 => some (.int v)) (zfix (fun _ _ _ _ _ => none) (bX12_judge_34 N) n h a0 x1 x2 x3) h 34 [(0, .ref a0), (1, .int x1), (2, .int x2), (3, .int x3)] [] := by
  induction n with
  | zero => intro h a0 x1 x2 x3; exact z_none
  | succ n hr34 =>
    intro h a0 x1 x2 x3
    show ZZ X g 6 (0, 0, 0, 0) _ (bX12_judge_34 N (zfix (fun _ _ _ _ _ => none) (bX12_judge_34 N) n) h a0 x1 x2 x3) h 34 _ _
    unfold bX12_judge_34
    refine z_iload_n C 3 dX12_judge_34 rfl ?_
    refine z_aload_n C 0 dX12_judge_35 rfl ?_
    refine z_getR C qX12_9 dX12_judge_36 (fun a_1 => ?_)
    refine z_bipush (v := (76 : Int32)) C dX12_judge_39 rfl ?_
    refine z_iaload C dX12_judge_41 (fun v_2 => ?_)
    refine z_icmpge C 105 dX12_judge_42 rfl ?_ ?_
    · refine z_bipush (v := (-5 : Int32)) C dX12_judge_105 rfl ?_
      exact z_ireturn C ⟨rfl, rfl⟩ dX12_judge_107
    · refine z_iload_n C 2 dX12_judge_45 rfl ?_
      refine z_i2l C dX12_judge_46 ?_
      refine z_iload_n C 3 dX12_judge_47 rfl ?_
      refine z_i2l C dX12_judge_48 ?_
      refine z_ladd C dX12_judge_49 ?_
      refine z_nmL (fun y_3 => ?_)
      refine z_lstore C dX12_judge_50 [(4, .long y_3), (0, .ref a0), (1, .int x1), (2, .int x2), (3, .int x3)] (by decide) rfl ?_
      refine z_iload_n C 3 dX12_judge_52 rfl ?_
      refine z_iflt C 69 dX12_judge_53 rfl ?_ ?_
      · refine z_bipush (v := (100 : Int32)) C dX12_judge_69 rfl ?_
        refine z_iload_n C 4 dX12_judge_71 rfl ?_
        refine z_iadd C dX12_judge_72 ?_
        exact z_ireturn C ⟨rfl, rfl⟩ dX12_judge_73
      · refine z_lload C 0 dX12_judge_56 rfl ?_
        refine z_aload_n C 1 dX12_judge_58 rfl ?_
        refine z_getR C qX12_58 dX12_judge_59 (fun a_4 => ?_)
        refine z_iload_n C 2 dX12_judge_62 rfl ?_
        refine z_iaload C dX12_judge_63 (fun v_5 => ?_)
        refine z_i2l C dX12_judge_64 ?_
        refine z_lcmp C dX12_judge_65 ?_
        refine z_iflt C 74 dX12_judge_66 rfl ?_ ?_
        · refine z_aload_n C 1 dX12_judge_74 rfl ?_
          refine z_getR C qX12_61 dX12_judge_75 (fun a_6 => ?_)
          refine z_bipush (v := (60 : Int32)) C dX12_judge_78 rfl ?_
          refine z_iload_n C 2 dX12_judge_80 rfl ?_
          refine z_imul C dX12_judge_81 ?_
          refine z_lload C 0 dX12_judge_82 rfl ?_
          refine z_l2i C dX12_judge_84 ?_
          refine z_iadd C dX12_judge_85 ?_
          refine z_laload C dX12_judge_86 (fun v_7 => ?_)
          refine z_aload_n C 1 dX12_judge_87 rfl ?_
          refine z_iload_n C 4 dX12_judge_88 rfl ?_
          refine z_bind (fun _ q_10 => ?_)
          refine z_calli (z_runV (As := [.int x3]) (rest := [.long v_7]) C mX12_99 (kX12_mindOf N h a0 x3) q_10 (Nat.le_of_ble_eq_true rfl) ⟨Nat.zero_le _, Nat.zero_le _⟩ dX12_judge_89 rfl rfl (Nat.le_of_ble_eq_true rfl)) rfl (fun v_9 h_8 => ?_)
          refine z_i2l C dX12_judge_92 ?_
          refine z_lcmp C dX12_judge_93 ?_
          refine z_ifeq C 99 dX12_judge_94 rfl ?_ ?_
          · refine z_iinc (v := x3 + (1 : Int32)) C 4 dX12_judge_99 [(3, .int (x3 + (1 : Int32))), (4, .long y_3), (0, .ref a0), (1, .int x1), (2, .int x2)] rfl rfl (by decide) rfl ?_
            refine z_goto C 34 dX12_judge_102 rfl ?_
            exact z_lv _ [2, 3, 4, 0] rfl (hr34 _ a0 x1 x2 (x3 + (1 : Int32)))
          · refine z_iload_n C 4 dX12_judge_97 rfl ?_
            exact z_ireturn C ⟨rfl, rfl⟩ dX12_judge_98
        · refine z_bipush (v := (100 : Int32)) C dX12_judge_69 rfl ?_
          refine z_iload_n C 4 dX12_judge_71 rfl ?_
          refine z_iadd C dX12_judge_72 ?_
          exact z_ireturn C ⟨rfl, rfl⟩ dX12_judge_73
def fX12_judge (N : Nat) (h : AH) (a0 : Nat) (x1 : Int32) (x2 : Int32) : Option (Int32 × AH) :=
  zcall (fX12_isTape N h x1) fun v_2 h_1 =>
  (if v_2 = (0) then
  some ((-1 : Int32), h_1)
  else
  (zgR h_1 a0 12 24).bind fun a_3 =>
  (zald 0 h_1 a_3 x1).bind fun v_4 =>
  (if v_4 = (-1 : Int32) then
  zfix (fun _ _ _ _ _ => none) (bX12_judge_34 N) N h_1 a0 x1 x2 (0 : Int32)
  else
  (zgR h_1 a0 12 24).bind fun a_5 =>
  (zald 0 h_1 a_5 x1).bind fun v_6 =>
  (if v_6 = (1 : Int32) then
  zfix (fun _ _ _ _ _ => none) (bX12_judge_34 N) N h_1 a0 x1 x2 (0 : Int32)
  else
  some ((-12 : Int32), h_1))))
theorem kX12_judge {l : Launch} {g : zG} (N : Nat) (h : AH) (a0 : Nat) (x1 : Int32) (x2 : Int32) : zM l g yX12_judge cX12_judge 6 (some .int) (3) 0 0 (fun v : Int32 => some (.int v)) (fX12_judge N h a0 x1 x2) h [.ref a0, .int x1, .int x2] := by
  refine zM.of (lv0 := [(0, .ref a0), (1, .int x1), (2, .int x2)]) (by decide) (Nat.le_of_ble_eq_true rfl) rfl (fun X hX C => ?_)
  subst hX
  unfold fX12_judge
  refine z_iload_n C 1 dX12_judge_0 rfl ?_
  refine z_calli (z_runS (As := [.int x1]) (rest := []) C mX12_263 (kX12_isTape N h x1) (Nat.le_of_ble_eq_true rfl) ⟨Nat.zero_le _, Nat.zero_le _⟩ dX12_judge_1 rfl rfl (Nat.le_of_ble_eq_true rfl)) rfl (fun v_2 h_1 => ?_)
  refine z_ifne C 9 dX12_judge_4 rfl ?_ ?_
  · refine z_aload_n C 0 dX12_judge_9 rfl ?_
    refine z_getR C qX12_55 dX12_judge_10 (fun a_3 => ?_)
    refine z_iload_n C 1 dX12_judge_13 rfl ?_
    refine z_iaload C dX12_judge_14 (fun v_4 => ?_)
    refine z_iconst (v := (-1 : Int32)) C dX12_judge_15 rfl ?_
    refine z_icmpeq C 32 dX12_judge_16 rfl ?_ ?_
    · refine z_iconst (v := (0 : Int32)) C dX12_judge_32 rfl ?_
      refine z_istore_n C dX12_judge_33 [(3, .int (0 : Int32)), (0, .ref a0), (1, .int x1), (2, .int x2)] (by decide) rfl ?_
      exact z_lv _ [1, 2, 3, 0] rfl (tX12_judge_34 C N N _ a0 x1 x2 (0 : Int32))
    · refine z_aload_n C 0 dX12_judge_19 rfl ?_
      refine z_getR C qX12_55 dX12_judge_20 (fun a_5 => ?_)
      refine z_iload_n C 1 dX12_judge_23 rfl ?_
      refine z_iaload C dX12_judge_24 (fun v_6 => ?_)
      refine z_iconst (v := (1 : Int32)) C dX12_judge_25 rfl ?_
      refine z_icmpeq C 32 dX12_judge_26 rfl ?_ ?_
      · refine z_iconst (v := (0 : Int32)) C dX12_judge_32 rfl ?_
        refine z_istore_n C dX12_judge_33 [(3, .int (0 : Int32)), (0, .ref a0), (1, .int x1), (2, .int x2)] (by decide) rfl ?_
        exact z_lv _ [1, 2, 3, 0] rfl (tX12_judge_34 C N N _ a0 x1 x2 (0 : Int32))
      · refine z_bipush (v := (-12 : Int32)) C dX12_judge_29 rfl ?_
        exact z_ireturn C ⟨rfl, rfl⟩ dX12_judge_31
  · refine z_iconst (v := (-1 : Int32)) C dX12_judge_7 rfl ?_
    exact z_ireturn C ⟨rfl, rfl⟩ dX12_judge_8
