def fJ0_coder_7d493 (N : Nat) (h : AH) (x0 : Nat) : Option (Int32 × AH) :=
  (if (1 : Int32) = (0) then
  zret .byte (1 : Int32) h
  else
  (zSv x0).bind fun j_1 =>
  zret .byte (0 : Int32) h)
theorem kJ0_coder_7d493 {l : Launch} {g : zG} (N : Nat) (h : AH) (x0 : Nat) : zM l g yJ0_coder_7d493 cJ0_coder_7d493 1 (some .byte) (1) 0 0 (fun v : Int32 => some (.int v)) (fJ0_coder_7d493 N h x0) h [.ref (g.2.2.1 x0)] := by
  refine zM.of (lv0 := [(0, .ref (g.2.2.1 x0))]) (by decide) (Nat.le_of_ble_eq_true rfl) rfl (fun X hX C => ?_)
  subst hX
  unfold fJ0_coder_7d493
  refine z_compact C qJ0_38 dJ0_coder_7d493_0 ?_
  refine z_ifeq C 13 dJ0_coder_7d493_3 rfl ?_ ?_
  · refine z_iconst (v := (1 : Int32)) C dJ0_coder_7d493_13 rfl ?_
    exact z_zreturn C ⟨rfl, rfl⟩ dJ0_coder_7d493_14
  · refine z_aload_n C 0 dJ0_coder_7d493_6 rfl ?_
    refine z_scoder C qJ0_15 dJ0_coder_7d493_7 (fun j_1 => ?_)
    refine z_goto C 14 dJ0_coder_7d493_10 rfl ?_
    exact z_zreturn C ⟨rfl, rfl⟩ dJ0_coder_7d493_14
def fJ0_length_8abf5 (N : Nat) (h : AH) (x0 : Nat) : Option (Int32 × AH) :=
  (zSv x0).bind fun j_1 =>
  (zBl j_1).bind fun v_2 =>
  (zSv x0).bind fun _ =>
  zcall (fJ0_coder_7d493 N h x0) fun v_4 h_3 =>
  some (v_2 >>> (v_4 &&& 31), h_3)
theorem kJ0_length_8abf5 {l : Launch} {g : zG} (N : Nat) (h : AH) (x0 : Nat) : zM l g yJ0_length_8abf5 cJ0_length_8abf5 1 (some .int) (2) 0 0 (fun v : Int32 => some (.int v)) (fJ0_length_8abf5 N h x0) h [.ref (g.2.2.1 x0)] := by
  refine zM.of (lv0 := [(0, .ref (g.2.2.1 x0))]) (by decide) (Nat.le_of_ble_eq_true rfl) rfl (fun X hX C => ?_)
  subst hX
  unfold fJ0_length_8abf5
  refine z_aload_n C 0 dJ0_length_8abf5_0 rfl ?_
  refine z_sval C qJ0_9 dJ0_length_8abf5_1 (fun j_1 => ?_)
  refine z_blen C dJ0_length_8abf5_4 (fun v_2 => ?_)
  refine z_aload_n C 0 dJ0_length_8abf5_5 rfl ?_
  refine z_bind (fun _ q_5 => ?_)
  refine z_calli (z_runT (As := []) (rest := [.int v_2]) C mJ0_335 (kJ0_coder_7d493 N h x0) q_5 (Nat.le_of_ble_eq_true rfl) ⟨Nat.zero_le _, Nat.zero_le _⟩ dJ0_length_8abf5_6 rfl rfl (Nat.le_of_ble_eq_true rfl)) rfl (fun v_4 h_3 => ?_)
  refine z_ishr C dJ0_length_8abf5_9 ?_
  exact z_ireturn C ⟨rfl, rfl⟩ dJ0_length_8abf5_10
def fJ0_isLatin1_aae02 (N : Nat) (h : AH) (x0 : Nat) : Option (Int32 × AH) :=
  (if (1 : Int32) = (0) then
  zret .boolean (0 : Int32) h
  else
  (zSv x0).bind fun j_1 =>
  (if (0 : Int32) = (0) then
  zret .boolean (1 : Int32) h
  else
  zret .boolean (0 : Int32) h))
theorem kJ0_isLatin1_aae02 {l : Launch} {g : zG} (N : Nat) (h : AH) (x0 : Nat) : zM l g yJ0_isLatin1_aae02 cJ0_isLatin1_aae02 1 (some .boolean) (1) 0 0 (fun v : Int32 => some (.int v)) (fJ0_isLatin1_aae02 N h x0) h [.ref (g.2.2.1 x0)] := by
  refine zM.of (lv0 := [(0, .ref (g.2.2.1 x0))]) (by decide) (Nat.le_of_ble_eq_true rfl) rfl (fun X hX C => ?_)
  subst hX
  unfold fJ0_isLatin1_aae02
  refine z_compact C qJ0_38 dJ0_isLatin1_aae02_0 ?_
  refine z_ifeq C 17 dJ0_isLatin1_aae02_3 rfl ?_ ?_
  · refine z_iconst (v := (0 : Int32)) C dJ0_isLatin1_aae02_17 rfl ?_
    exact z_zreturn C ⟨rfl, rfl⟩ dJ0_isLatin1_aae02_18
  · refine z_aload_n C 0 dJ0_isLatin1_aae02_6 rfl ?_
    refine z_scoder C qJ0_15 dJ0_isLatin1_aae02_7 (fun j_1 => ?_)
    refine z_ifne C 17 dJ0_isLatin1_aae02_10 rfl ?_ ?_
    · refine z_iconst (v := (0 : Int32)) C dJ0_isLatin1_aae02_17 rfl ?_
      exact z_zreturn C ⟨rfl, rfl⟩ dJ0_isLatin1_aae02_18
    · refine z_iconst (v := (1 : Int32)) C dJ0_isLatin1_aae02_13 rfl ?_
      refine z_goto C 18 dJ0_isLatin1_aae02_14 rfl ?_
      exact z_zreturn C ⟨rfl, rfl⟩ dJ0_isLatin1_aae02_18
def fJ3_checkIndex_8e157 (N : Nat) (h : AH) (x0 : Int32) (x1 : Int32) : Option (Int32 × AH) :=
  (if x0 < (0) then
  none
  else
  (if x0 < x1 then
  some (x0, h)
  else
  none))
theorem kJ3_checkIndex_8e157 {l : Launch} {g : zG} (N : Nat) (h : AH) (x0 : Int32) (x1 : Int32) (x2 : Value) (hx2 : x2 = .null ∨ ∃ t, x2 = .ref t) : zM l g yJ3_checkIndex_8e157 cJ3_checkIndex_8e157 3 (some .int) (1) 0 0 (fun v : Int32 => some (.int v)) (fJ3_checkIndex_8e157 N h x0 x1) h [.int x0, .int x1, x2] := by
  rcases hx2 with rfl | ⟨t0, rfl⟩
  · refine zM.of (lv0 := [(0, .int x0), (1, .int x1), (2, .null)]) (by decide) (Nat.le_of_ble_eq_true rfl) rfl (fun X hX C => ?_)
    subst hX
    unfold fJ3_checkIndex_8e157
    refine z_iload_n C 0 dJ3_checkIndex_8e157_0 rfl ?_
    refine z_iflt C 9 dJ3_checkIndex_8e157_1 rfl ?_ ?_
    · exact z_none
    · refine z_iload_n C 0 dJ3_checkIndex_8e157_4 rfl ?_
      refine z_iload_n C 1 dJ3_checkIndex_8e157_5 rfl ?_
      refine z_icmplt C 16 dJ3_checkIndex_8e157_6 rfl ?_ ?_
      · refine z_iload_n C 0 dJ3_checkIndex_8e157_16 rfl ?_
        exact z_ireturn C ⟨rfl, rfl⟩ dJ3_checkIndex_8e157_17
      · exact z_none
  · refine zM.of (lv0 := [(0, .int x0), (1, .int x1), (2, .ref t0)]) (by decide) (Nat.le_of_ble_eq_true rfl) rfl (fun X hX C => ?_)
    subst hX
    unfold fJ3_checkIndex_8e157
    refine z_iload_n C 0 dJ3_checkIndex_8e157_0 rfl ?_
    refine z_iflt C 9 dJ3_checkIndex_8e157_1 rfl ?_ ?_
    · exact z_none
    · refine z_iload_n C 0 dJ3_checkIndex_8e157_4 rfl ?_
      refine z_iload_n C 1 dJ3_checkIndex_8e157_5 rfl ?_
      refine z_icmplt C 16 dJ3_checkIndex_8e157_6 rfl ?_ ?_
      · refine z_iload_n C 0 dJ3_checkIndex_8e157_16 rfl ?_
        exact z_ireturn C ⟨rfl, rfl⟩ dJ3_checkIndex_8e157_17
      · exact z_none
def fJ0_checkIndex_df160 (N : Nat) (h : AH) (x0 : Int32) (x1 : Int32) : Option (Unit × AH) :=
  zcall (fJ3_checkIndex_8e157 N h x0 x1) fun v_3 h_2 =>
  some ((), h_2)
theorem kJ0_checkIndex_df160 {l : Launch} {g : zG} (N : Nat) (h : AH) (x0 : Int32) (x1 : Int32) : zM l g yJ0_checkIndex_df160 cJ0_checkIndex_df160 2 none (2) 0 0 (fun _ : Unit => none) (fJ0_checkIndex_df160 N h x0 x1) h [.int x0, .int x1] := by
  refine zM.of (lv0 := [(0, .int x0), (1, .int x1)]) (by decide) (Nat.le_of_ble_eq_true rfl) rfl (fun X hX C => ?_)
  subst hX
  unfold fJ0_checkIndex_df160
  refine z_iload_n C 0 dJ0_checkIndex_df160_0 rfl ?_
  refine z_iload_n C 1 dJ0_checkIndex_df160_1 rfl ?_
  refine z_fmt C qJ0_1053 dJ0_checkIndex_df160_2 (fun o_1 ho_1 => ?_)
  refine z_calli (z_runS (As := [.int x0, .int x1, o_1]) (rest := []) C mJ0_1059 (kJ3_checkIndex_8e157 N h x0 x1 o_1 ho_1) (Nat.le_of_ble_eq_true rfl) ⟨Nat.zero_le _, Nat.zero_le _⟩ dJ0_checkIndex_df160_5 rfl rfl (Nat.le_of_ble_eq_true rfl)) rfl (fun v_3 h_2 => ?_)
  refine z_pop C dJ0_checkIndex_df160_8 rfl ?_
  exact z_return C ⟨rfl, rfl⟩ dJ0_checkIndex_df160_9
def fJ1_charAt_3b067 (N : Nat) (h : AH) (x0 : Nat) (x1 : Int32) : Option (Int32 × AH) :=
  (zBl x0).bind fun v_1 =>
  zcall (fJ0_checkIndex_df160 N h x1 v_1) fun _ h_2 =>
  (zBb x0 x1).bind fun v_3 =>
  zret .char (((v_3 &&& (255 : Int32)).toUInt32 % 65536).toInt32) h_2
theorem kJ1_charAt_3b067 {l : Launch} {g : zG} (N : Nat) (h : AH) (x0 : Nat) (x1 : Int32) : zM l g yJ1_charAt_3b067 cJ1_charAt_3b067 2 (some .char) (3) 0 0 (fun v : Int32 => some (.int v)) (fJ1_charAt_3b067 N h x0 x1) h [.ref (g.2.2.2.1 x0), .int x1] := by
  refine zM.of (lv0 := [(0, .ref (g.2.2.2.1 x0)), (1, .int x1)]) (by decide) (Nat.le_of_ble_eq_true rfl) rfl (fun X hX C => ?_)
  subst hX
  unfold fJ1_charAt_3b067
  refine z_iload_n C 1 dJ1_charAt_3b067_0 rfl ?_
  refine z_aload_n C 0 dJ1_charAt_3b067_1 rfl ?_
  refine z_blen C dJ1_charAt_3b067_2 (fun v_1 => ?_)
  refine z_callv (z_runS (As := [.int x1, .int v_1]) (rest := []) C mJ1_9 (kJ0_checkIndex_df160 N h x1 v_1) (Nat.le_of_ble_eq_true rfl) ⟨Nat.zero_le _, Nat.zero_le _⟩ dJ1_charAt_3b067_3 rfl rfl (Nat.le_of_ble_eq_true rfl)) rfl (fun _ h_2 => ?_)
  refine z_aload_n C 0 dJ1_charAt_3b067_6 rfl ?_
  refine z_iload_n C 1 dJ1_charAt_3b067_7 rfl ?_
  refine z_bald C dJ1_charAt_3b067_8 (fun v_3 => ?_)
  refine z_sipush (v := (255 : Int32)) C dJ1_charAt_3b067_9 rfl ?_
  refine z_iand C dJ1_charAt_3b067_12 ?_
  refine z_i2c C dJ1_charAt_3b067_13 ?_
  exact z_zreturn C ⟨rfl, rfl⟩ dJ1_charAt_3b067_14
def fJ0_charAt_5068e (N : Nat) (h : AH) (x0 : Nat) (x1 : Int32) : Option (Int32 × AH) :=
  (zSv x0).bind fun _ =>
  zcall (fJ0_isLatin1_aae02 N h x0) fun v_2 h_1 =>
  (if v_2 = (0) then
  none
  else
  (zSv x0).bind fun j_4 =>
  zcall (fJ1_charAt_3b067 N h_1 j_4 x1) fun v_6 h_5 =>
  zret .char v_6 h_5)
theorem kJ0_charAt_5068e {l : Launch} {g : zG} (N : Nat) (h : AH) (x0 : Nat) (x1 : Int32) : zM l g yJ0_charAt_5068e cJ0_charAt_5068e 2 (some .char) (4) 0 0 (fun v : Int32 => some (.int v)) (fJ0_charAt_5068e N h x0 x1) h [.ref (g.2.2.1 x0), .int x1] := by
  refine zM.of (lv0 := [(0, .ref (g.2.2.1 x0)), (1, .int x1)]) (by decide) (Nat.le_of_ble_eq_true rfl) rfl (fun X hX C => ?_)
  subst hX
  unfold fJ0_charAt_5068e
  refine z_aload_n C 0 dJ0_charAt_5068e_0 rfl ?_
  refine z_bind (fun _ q_3 => ?_)
  refine z_calli (z_runT (As := []) (rest := []) C mJ0_492 (kJ0_isLatin1_aae02 N h x0) q_3 (Nat.le_of_ble_eq_true rfl) ⟨Nat.zero_le _, Nat.zero_le _⟩ dJ0_charAt_5068e_1 rfl rfl (Nat.le_of_ble_eq_true rfl)) rfl (fun v_2 h_1 => ?_)
  refine z_ifeq C 16 dJ0_charAt_5068e_4 rfl ?_ ?_
  · exact z_none
  · refine z_aload_n C 0 dJ0_charAt_5068e_7 rfl ?_
    refine z_sval C qJ0_9 dJ0_charAt_5068e_8 (fun j_4 => ?_)
    refine z_iload_n C 1 dJ0_charAt_5068e_11 rfl ?_
    refine z_calli (z_runS (As := [.ref (g.2.2.2.1 j_4), .int x1]) (rest := []) C mJ0_495 (kJ1_charAt_3b067 N h_1 j_4 x1) (Nat.le_of_ble_eq_true rfl) ⟨Nat.zero_le _, Nat.zero_le _⟩ dJ0_charAt_5068e_12 rfl rfl (Nat.le_of_ble_eq_true rfl)) rfl (fun v_6 h_5 => ?_)
    exact z_zreturn C ⟨rfl, rfl⟩ dJ0_charAt_5068e_15
def fJ1_canEncode_9a6ad (N : Nat) (h : AH) (x0 : Int32) : Option (Int32 × AH) :=
  (if x0 < (0) then
  zret .boolean (0 : Int32) h
  else
  (if (255 : Int32) < x0 then
  zret .boolean (0 : Int32) h
  else
  zret .boolean (1 : Int32) h))
theorem kJ1_canEncode_9a6ad {l : Launch} {g : zG} (N : Nat) (h : AH) (x0 : Int32) : zM l g yJ1_canEncode_9a6ad cJ1_canEncode_9a6ad 1 (some .boolean) (1) 0 0 (fun v : Int32 => some (.int v)) (fJ1_canEncode_9a6ad N h x0) h [.int x0] := by
  refine zM.of (lv0 := [(0, .int x0)]) (by decide) (Nat.le_of_ble_eq_true rfl) rfl (fun X hX C => ?_)
  subst hX
  unfold fJ1_canEncode_9a6ad
  refine z_iload_n C 0 dJ1_canEncode_9a6ad_0 rfl ?_
  refine z_iflt C 15 dJ1_canEncode_9a6ad_1 rfl ?_ ?_
  · refine z_iconst (v := (0 : Int32)) C dJ1_canEncode_9a6ad_15 rfl ?_
    exact z_zreturn C ⟨rfl, rfl⟩ dJ1_canEncode_9a6ad_16
  · refine z_iload_n C 0 dJ1_canEncode_9a6ad_4 rfl ?_
    refine z_sipush (v := (255 : Int32)) C dJ1_canEncode_9a6ad_5 rfl ?_
    refine z_icmpgt C 15 dJ1_canEncode_9a6ad_8 rfl ?_ ?_
    · refine z_iconst (v := (0 : Int32)) C dJ1_canEncode_9a6ad_15 rfl ?_
      exact z_zreturn C ⟨rfl, rfl⟩ dJ1_canEncode_9a6ad_16
    · refine z_iconst (v := (1 : Int32)) C dJ1_canEncode_9a6ad_11 rfl ?_
      refine z_goto C 16 dJ1_canEncode_9a6ad_12 rfl ?_
      exact z_zreturn C ⟨rfl, rfl⟩ dJ1_canEncode_9a6ad_16
def bJ1_indexOfChar_4cfef_7 (N : Nat) (r7 : AH → Nat → Int32 → Int32 → Int32 → Option (Int32 × AH)) (h : AH) (x0 : Nat) (x3 : Int32) (x4 : Int32) (x5 : Int32) : Option (Int32 × AH) :=
  (if x3 ≤ x5 then
  some ((-1 : Int32), h)
  else
  (zBb x0 x5).bind fun v_1 =>
  (if v_1 = x4 then
  some (x5, h)
  else
  r7 h x0 x3 x4 (x5 + (1 : Int32))))
theorem tJ1_indexOfChar_4cfef_7 {X : zX} {g : zG} (C : zC X g yJ1_indexOfChar_4cfef cJ1_indexOfChar_4cfef 6 1 0 0 (some .int)) (N : Nat) (n : Nat) : ∀ (h : AH) (x0 : Nat) (x3 : Int32) (x4 : Int32) (x5 : Int32), ZZ X g 6 (0, 0, 0, 0) (fun v : Int32 => some (.int v)) (zfix (fun _ _ _ _ _ => none) (bJ1_indexOfChar_4cfef_7 N) n h x0 x3 x4 x5) h 7 [(0, .ref (g.2.2.2.1 x0)), (3, .int x3), (4, .int x4), (5, .int x5)] [] := by
  induction n with
  | zero => intro h x0 x3 x4 x5; exact z_none
  | succ n hr7 =>
    intro h x0 x3 x4 x5
    show ZZ X g 6 (0, 0, 0, 0) _ (bJ1_indexOfChar_4cfef_7 N (zfix (fun _ _ _ _ _ => none) (bJ1_indexOfChar_4cfef_7 N) n) h x0 x3 x4 x5) h 7 _ _
    unfold bJ1_indexOfChar_4cfef_7
    refine z_iload C 3 dJ1_indexOfChar_4cfef_7 rfl ?_
    refine z_iload_n C 1 dJ1_indexOfChar_4cfef_9 rfl ?_
    refine z_icmpge C 31 dJ1_indexOfChar_4cfef_10 rfl ?_ ?_
    · refine z_iconst (v := (-1 : Int32)) C dJ1_indexOfChar_4cfef_31 rfl ?_
      exact z_ireturn C ⟨rfl, rfl⟩ dJ1_indexOfChar_4cfef_32
    · refine z_aload_n C 0 dJ1_indexOfChar_4cfef_13 rfl ?_
      refine z_iload C 3 dJ1_indexOfChar_4cfef_14 rfl ?_
      refine z_bald C dJ1_indexOfChar_4cfef_16 (fun v_1 => ?_)
      refine z_iload C 2 dJ1_indexOfChar_4cfef_17 rfl ?_
      refine z_icmpne C 25 dJ1_indexOfChar_4cfef_19 rfl ?_ ?_
      · refine z_iinc (v := x5 + (1 : Int32)) C 3 dJ1_indexOfChar_4cfef_25 [(5, .int (x5 + (1 : Int32))), (0, .ref (g.2.2.2.1 x0)), (3, .int x3), (4, .int x4)] rfl rfl (by decide) rfl ?_
        refine z_goto C 7 dJ1_indexOfChar_4cfef_28 rfl ?_
        exact z_lv _ [1, 2, 3, 0] rfl (hr7 _ x0 x3 x4 (x5 + (1 : Int32)))
      · refine z_iload C 3 dJ1_indexOfChar_4cfef_22 rfl ?_
        exact z_ireturn C ⟨rfl, rfl⟩ dJ1_indexOfChar_4cfef_24
def fJ1_indexOfChar_4cfef (N : Nat) (h : AH) (x0 : Nat) (x1 : Int32) (x2 : Int32) (x3 : Int32) : Option (Int32 × AH) :=
  znm (x1.toInt8.toInt32) fun y_1 =>
  zfix (fun _ _ _ _ _ => none) (bJ1_indexOfChar_4cfef_7 N) N h x0 x3 y_1 x2
theorem kJ1_indexOfChar_4cfef {l : Launch} {g : zG} (N : Nat) (h : AH) (x0 : Nat) (x1 : Int32) (x2 : Int32) (x3 : Int32) : zM l g yJ1_indexOfChar_4cfef cJ1_indexOfChar_4cfef 6 (some .int) (1) 0 0 (fun v : Int32 => some (.int v)) (fJ1_indexOfChar_4cfef N h x0 x1 x2 x3) h [.ref (g.2.2.2.1 x0), .int x1, .int x2, .int x3] := by
  refine zM.of (lv0 := [(0, .ref (g.2.2.2.1 x0)), (1, .int x1), (2, .int x2), (3, .int x3)]) (by decide) (Nat.le_of_ble_eq_true rfl) rfl (fun X hX C => ?_)
  subst hX
  unfold fJ1_indexOfChar_4cfef
  refine z_iload_n C 1 dJ1_indexOfChar_4cfef_0 rfl ?_
  refine z_i2b C dJ1_indexOfChar_4cfef_1 ?_
  refine z_nmI (fun y_1 => ?_)
  refine z_istore C dJ1_indexOfChar_4cfef_2 [(4, .int y_1), (0, .ref (g.2.2.2.1 x0)), (1, .int x1), (2, .int x2), (3, .int x3)] (by decide) rfl ?_
  refine z_iload_n C 3 dJ1_indexOfChar_4cfef_4 rfl ?_
  refine z_istore C dJ1_indexOfChar_4cfef_5 [(5, .int x2), (4, .int y_1), (0, .ref (g.2.2.2.1 x0)), (1, .int x1), (2, .int x2), (3, .int x3)] (by decide) rfl ?_
  exact z_lv _ [2, 5, 1, 0] rfl (tJ1_indexOfChar_4cfef_7 C N N _ x0 x3 y_1 x2)
def fJ1_indexOf_4cfef (N : Nat) (h : AH) (x0 : Nat) (x1 : Int32) (x2 : Int32) (x3 : Int32) : Option (Int32 × AH) :=
  zcall (fJ1_canEncode_9a6ad N h x1) fun v_2 h_1 =>
  (if v_2 = (0) then
  some ((-1 : Int32), h_1)
  else
  znm (if x2 < (0 : Int32) then (0 : Int32) else x2) fun y_3 =>
  (zBl x0).bind fun v_4 =>
  znm (if v_4 < x3 then v_4 else x3) fun y_5 =>
  (if y_3 < y_5 then
  zcall (fJ1_indexOfChar_4cfef N h_1 x0 x1 y_3 y_5) fun v_7 h_6 =>
  some (v_7, h_6)
  else
  some ((-1 : Int32), h_1)))
theorem kJ1_indexOf_4cfef {l : Launch} {g : zG} (N : Nat) (h : AH) (x0 : Nat) (x1 : Int32) (x2 : Int32) (x3 : Int32) : zM l g yJ1_indexOf_4cfef cJ1_indexOf_4cfef 4 (some .int) (2) 0 0 (fun v : Int32 => some (.int v)) (fJ1_indexOf_4cfef N h x0 x1 x2 x3) h [.ref (g.2.2.2.1 x0), .int x1, .int x2, .int x3] := by
  refine zM.of (lv0 := [(0, .ref (g.2.2.2.1 x0)), (1, .int x1), (2, .int x2), (3, .int x3)]) (by decide) (Nat.le_of_ble_eq_true rfl) rfl (fun X hX C => ?_)
  subst hX
  unfold fJ1_indexOf_4cfef
  refine z_iload_n C 1 dJ1_indexOf_4cfef_0 rfl ?_
  refine z_calli (z_runS (As := [.int x1]) (rest := []) C mJ1_88 (kJ1_canEncode_9a6ad N h x1) (Nat.le_of_ble_eq_true rfl) ⟨Nat.zero_le _, Nat.zero_le _⟩ dJ1_indexOf_4cfef_1 rfl rfl (Nat.le_of_ble_eq_true rfl)) rfl (fun v_2 h_1 => ?_)
  refine z_ifne C 9 dJ1_indexOf_4cfef_4 rfl ?_ ?_
  · refine z_iload_n C 2 dJ1_indexOf_4cfef_9 rfl ?_
    refine z_iconst (v := (0 : Int32)) C dJ1_indexOf_4cfef_10 rfl ?_
    refine z_mmax C mJ1_92 dJ1_indexOf_4cfef_11 (Nat.le_of_ble_eq_true rfl) (by omega) ⟨Nat.zero_le _, Nat.zero_le _⟩ ?_
    refine z_nmI (fun y_3 => ?_)
    refine z_istore_n C dJ1_indexOf_4cfef_14 [(2, .int y_3), (0, .ref (g.2.2.2.1 x0)), (1, .int x1), (3, .int x3)] (by decide) rfl ?_
    refine z_iload_n C 3 dJ1_indexOf_4cfef_15 rfl ?_
    refine z_aload_n C 1 dJ1_indexOf_4cfef_16 rfl ?_
    refine z_blen C dJ1_indexOf_4cfef_17 (fun v_4 => ?_)
    refine z_mmin C mJ1_38 dJ1_indexOf_4cfef_18 (Nat.le_of_ble_eq_true rfl) (by omega) ⟨Nat.zero_le _, Nat.zero_le _⟩ ?_
    refine z_nmI (fun y_5 => ?_)
    refine z_istore_n C dJ1_indexOf_4cfef_21 [(3, .int y_5), (2, .int y_3), (0, .ref (g.2.2.2.1 x0)), (1, .int x1)] (by decide) rfl ?_
    refine z_iload_n C 1 dJ1_indexOf_4cfef_22 rfl ?_
    refine z_iload_n C 0 dJ1_indexOf_4cfef_23 rfl ?_
    refine z_icmplt C 29 dJ1_indexOf_4cfef_24 rfl ?_ ?_
    · refine z_aload_n C 2 dJ1_indexOf_4cfef_29 rfl ?_
      refine z_iload_n C 3 dJ1_indexOf_4cfef_30 rfl ?_
      refine z_iload_n C 1 dJ1_indexOf_4cfef_31 rfl ?_
      refine z_iload_n C 0 dJ1_indexOf_4cfef_32 rfl ?_
      refine z_calli (z_runS (As := [.ref (g.2.2.2.1 x0), .int x1, .int y_3, .int y_5]) (rest := []) C mJ1_95 (kJ1_indexOfChar_4cfef N h_1 x0 x1 y_3 y_5) (Nat.le_of_ble_eq_true rfl) ⟨Nat.zero_le _, Nat.zero_le _⟩ dJ1_indexOf_4cfef_33 rfl rfl (Nat.le_of_ble_eq_true rfl)) rfl (fun v_7 h_6 => ?_)
      exact z_ireturn C ⟨rfl, rfl⟩ dJ1_indexOf_4cfef_36
    · refine z_iconst (v := (-1 : Int32)) C dJ1_indexOf_4cfef_27 rfl ?_
      exact z_ireturn C ⟨rfl, rfl⟩ dJ1_indexOf_4cfef_28
  · refine z_iconst (v := (-1 : Int32)) C dJ1_indexOf_4cfef_7 rfl ?_
    exact z_ireturn C ⟨rfl, rfl⟩ dJ1_indexOf_4cfef_8
def fJ0_indexOf_7cf53 (N : Nat) (h : AH) (x0 : Nat) (x1 : Int32) (x2 : Int32) : Option (Int32 × AH) :=
  (zSv x0).bind fun _ =>
  zcall (fJ0_isLatin1_aae02 N h x0) fun v_2 h_1 =>
  (if v_2 = (0) then
  none
  else
  (zSv x0).bind fun j_4 =>
  (zSv x0).bind fun _ =>
  zcall (fJ0_length_8abf5 N h_1 x0) fun v_6 h_5 =>
  zcall (fJ1_indexOf_4cfef N h_5 j_4 x1 x2 v_6) fun v_9 h_8 =>
  some (v_9, h_8))
theorem kJ0_indexOf_7cf53 {l : Launch} {g : zG} (N : Nat) (h : AH) (x0 : Nat) (x1 : Int32) (x2 : Int32) : zM l g yJ0_indexOf_7cf53 cJ0_indexOf_7cf53 3 (some .int) (3) 0 0 (fun v : Int32 => some (.int v)) (fJ0_indexOf_7cf53 N h x0 x1 x2) h [.ref (g.2.2.1 x0), .int x1, .int x2] := by
  refine zM.of (lv0 := [(0, .ref (g.2.2.1 x0)), (1, .int x1), (2, .int x2)]) (by decide) (Nat.le_of_ble_eq_true rfl) rfl (fun X hX C => ?_)
  subst hX
  unfold fJ0_indexOf_7cf53
  refine z_aload_n C 0 dJ0_indexOf_7cf53_0 rfl ?_
  refine z_bind (fun _ q_3 => ?_)
  refine z_calli (z_runT (As := []) (rest := []) C mJ0_492 (kJ0_isLatin1_aae02 N h x0) q_3 (Nat.le_of_ble_eq_true rfl) ⟨Nat.zero_le _, Nat.zero_le _⟩ dJ0_indexOf_7cf53_1 rfl rfl (Nat.le_of_ble_eq_true rfl)) rfl (fun v_2 h_1 => ?_)
  refine z_ifeq C 23 dJ0_indexOf_7cf53_4 rfl ?_ ?_
  · exact z_none
  · refine z_aload_n C 0 dJ0_indexOf_7cf53_7 rfl ?_
    refine z_sval C qJ0_9 dJ0_indexOf_7cf53_8 (fun j_4 => ?_)
    refine z_iload_n C 1 dJ0_indexOf_7cf53_11 rfl ?_
    refine z_iload_n C 2 dJ0_indexOf_7cf53_12 rfl ?_
    refine z_aload_n C 0 dJ0_indexOf_7cf53_13 rfl ?_
    refine z_bind (fun _ q_7 => ?_)
    refine z_calli (z_runT (As := []) (rest := [.int x2, .int x1, .ref (g.2.2.2.1 j_4)]) C mJ0_505 (kJ0_length_8abf5 N h_1 x0) q_7 (Nat.le_of_ble_eq_true rfl) ⟨Nat.zero_le _, Nat.zero_le _⟩ dJ0_indexOf_7cf53_14 rfl rfl (Nat.le_of_ble_eq_true rfl)) rfl (fun v_6 h_5 => ?_)
    refine z_calli (z_runS (As := [.ref (g.2.2.2.1 j_4), .int x1, .int x2, .int v_6]) (rest := []) C mJ0_637 (kJ1_indexOf_4cfef N h_5 j_4 x1 x2 v_6) (Nat.le_of_ble_eq_true rfl) ⟨Nat.zero_le _, Nat.zero_le _⟩ dJ0_indexOf_7cf53_17 rfl rfl (Nat.le_of_ble_eq_true rfl)) rfl (fun v_9 h_8 => ?_)
    refine z_goto C 36 dJ0_indexOf_7cf53_20 rfl ?_
    exact z_ireturn C ⟨rfl, rfl⟩ dJ0_indexOf_7cf53_36
def fJ0_indexOf_0f7a4 (N : Nat) (h : AH) (x0 : Nat) (x1 : Int32) : Option (Int32 × AH) :=
  (zSv x0).bind fun _ =>
  zcall (fJ0_indexOf_7cf53 N h x0 x1 (0 : Int32)) fun v_2 h_1 =>
  some (v_2, h_1)
theorem kJ0_indexOf_0f7a4 {l : Launch} {g : zG} (N : Nat) (h : AH) (x0 : Nat) (x1 : Int32) : zM l g yJ0_indexOf_0f7a4 cJ0_indexOf_0f7a4 2 (some .int) (4) 0 0 (fun v : Int32 => some (.int v)) (fJ0_indexOf_0f7a4 N h x0 x1) h [.ref (g.2.2.1 x0), .int x1] := by
  refine zM.of (lv0 := [(0, .ref (g.2.2.1 x0)), (1, .int x1)]) (by decide) (Nat.le_of_ble_eq_true rfl) rfl (fun X hX C => ?_)
  subst hX
  unfold fJ0_indexOf_0f7a4
  refine z_aload_n C 0 dJ0_indexOf_0f7a4_0 rfl ?_
  refine z_iload_n C 1 dJ0_indexOf_0f7a4_1 rfl ?_
  refine z_iconst (v := (0 : Int32)) C dJ0_indexOf_0f7a4_2 rfl ?_
  refine z_bind (fun _ q_3 => ?_)
  refine z_calli (z_runT (As := [.int x1, .int (0 : Int32)]) (rest := []) C mJ0_633 (kJ0_indexOf_7cf53 N h x0 x1 (0 : Int32)) q_3 (Nat.le_of_ble_eq_true rfl) ⟨Nat.zero_le _, Nat.zero_le _⟩ dJ0_indexOf_0f7a4_3 rfl rfl (Nat.le_of_ble_eq_true rfl)) rfl (fun v_2 h_1 => ?_)
  exact z_ireturn C ⟨rfl, rfl⟩ dJ0_indexOf_0f7a4_6
def fX5_placeIn (N : Nat) (h : AH) (x0 : Nat) (x1 : Int32) : Option (Int32 × AH) :=
  (if x1 = (-1 : Int32) then
  some ((-1 : Int32), h)
  else
  (zSv x0).bind fun _ =>
  zcall (fJ0_indexOf_0f7a4 N h x0 ((x1.toUInt32 % 65536).toInt32)) fun v_2 h_1 =>
  some (v_2, h_1))
theorem kX5_placeIn {l : Launch} {g : zG} (N : Nat) (h : AH) (x0 : Nat) (x1 : Int32) : zM l g yX5_placeIn cX5_placeIn 2 (some .int) (5) 0 0 (fun v : Int32 => some (.int v)) (fX5_placeIn N h x0 x1) h [.ref (g.2.2.1 x0), .int x1] := by
  refine zM.of (lv0 := [(0, .ref (g.2.2.1 x0)), (1, .int x1)]) (by decide) (Nat.le_of_ble_eq_true rfl) rfl (fun X hX C => ?_)
  subst hX
  unfold fX5_placeIn
  refine z_iload_n C 1 dX5_placeIn_0 rfl ?_
  refine z_iconst (v := (-1 : Int32)) C dX5_placeIn_1 rfl ?_
  refine z_icmpne C 9 dX5_placeIn_2 rfl ?_ ?_
  · refine z_aload_n C 0 dX5_placeIn_9 rfl ?_
    refine z_iload_n C 1 dX5_placeIn_10 rfl ?_
    refine z_i2c C dX5_placeIn_11 ?_
    refine z_bind (fun _ q_3 => ?_)
    refine z_calli (z_runT (As := [.int ((x1.toUInt32 % 65536).toInt32)]) (rest := []) C mX5_61 (kJ0_indexOf_0f7a4 N h x0 ((x1.toUInt32 % 65536).toInt32)) q_3 (Nat.le_of_ble_eq_true rfl) ⟨Nat.zero_le _, Nat.zero_le _⟩ dX5_placeIn_12 rfl rfl (Nat.le_of_ble_eq_true rfl)) rfl (fun v_2 h_1 => ?_)
    exact z_ireturn C ⟨rfl, rfl⟩ dX5_placeIn_15
  · refine z_iconst (v := (-1 : Int32)) C dX5_placeIn_5 rfl ?_
    refine z_goto C 15 dX5_placeIn_6 rfl ?_
    exact z_ireturn C ⟨rfl, rfl⟩ dX5_placeIn_15
def bX5_takeWord_2 (N : Nat) (r2 : AH → Nat → Nat → Int32 → Option (Int32 × AH)) (h : AH) (a0 : Nat) (x1 : Nat) (x2 : Int32) : Option (Int32 × AH) :=
  (zSv x1).bind fun _ =>
  zcall (fJ0_length_8abf5 N h x1) fun v_2 h_1 =>
  (if v_2 ≤ x2 then
  zret .boolean (1 : Int32) h_1
  else
  (zis h_1 a0 5).bind fun _ =>
  zcall (fX5_sign N h_1 a0) fun v_5 h_4 =>
  (zSv x1).bind fun _ =>
  zcall (fJ0_charAt_5068e N h_4 x1 x2) fun v_8 h_7 =>
  (if v_5 = v_8 then
  (zgI h_7 a0 5 7).bind fun v_10 =>
  (zput h_7 a0 5 7 (.int (v_10 + (1 : Int32)))).bind fun h_11 =>
  r2 h_11 a0 x1 (x2 + (1 : Int32))
  else
  zret .boolean (0 : Int32) h_7))
theorem tX5_takeWord_2 {X : zX} {g : zG} (C : zC X g yX5_takeWord cX5_takeWord 3 5 0 0 (some .boolean)) (N : Nat) (n : Nat) : ∀ (h : AH) (a0 : Nat) (x1 : Nat) (x2 : Int32), ZZ X g 3 (0, 0, 0, 0) (fun v : Int32 => some (.int v)) (zfix (fun _ _ _ _ => none) (bX5_takeWord_2 N) n h a0 x1 x2) h 2 [(0, .ref a0), (1, .ref (g.2.2.1 x1)), (2, .int x2)] [] := by
  induction n with
  | zero => intro h a0 x1 x2; exact z_none
  | succ n hr2 =>
    intro h a0 x1 x2
    show ZZ X g 3 (0, 0, 0, 0) _ (bX5_takeWord_2 N (zfix (fun _ _ _ _ => none) (bX5_takeWord_2 N) n) h a0 x1 x2) h 2 _ _
    unfold bX5_takeWord_2
    refine z_iload_n C 2 dX5_takeWord_2 rfl ?_
    refine z_aload_n C 1 dX5_takeWord_3 rfl ?_
    refine z_bind (fun _ q_3 => ?_)
    refine z_calli (z_runT (As := []) (rest := [.int x2]) C mX5_67 (kJ0_length_8abf5 N h x1) q_3 (Nat.le_of_ble_eq_true rfl) ⟨Nat.zero_le _, Nat.zero_le _⟩ dX5_takeWord_4 rfl rfl (Nat.le_of_ble_eq_true rfl)) rfl (fun v_2 h_1 => ?_)
    refine z_icmpge C 40 dX5_takeWord_7 rfl ?_ ?_
    · refine z_iconst (v := (1 : Int32)) C dX5_takeWord_40 rfl ?_
      exact z_zreturn C ⟨rfl, rfl⟩ dX5_takeWord_41
    · refine z_aload_n C 0 dX5_takeWord_10 rfl ?_
      refine z_bind (fun _ q_6 => ?_)
      refine z_calli (z_runV (As := []) (rest := []) C mX5_51 (kX5_sign N h_1 a0) q_6 (Nat.le_of_ble_eq_true rfl) ⟨Nat.zero_le _, Nat.zero_le _⟩ dX5_takeWord_11 rfl rfl (Nat.le_of_ble_eq_true rfl)) rfl (fun v_5 h_4 => ?_)
      refine z_aload_n C 1 dX5_takeWord_14 rfl ?_
      refine z_iload_n C 2 dX5_takeWord_15 rfl ?_
      refine z_bind (fun _ q_9 => ?_)
      refine z_calli (z_runT (As := [.int x2]) (rest := [.int v_5]) C mX5_69 (kJ0_charAt_5068e N h_4 x1 x2) q_9 (Nat.le_of_ble_eq_true rfl) ⟨Nat.zero_le _, Nat.zero_le _⟩ dX5_takeWord_16 rfl rfl (Nat.le_of_ble_eq_true rfl)) rfl (fun v_8 h_7 => ?_)
      refine z_icmpeq C 24 dX5_takeWord_19 rfl ?_ ?_
      · refine z_aload_n C 0 dX5_takeWord_24 rfl ?_
        refine z_dup C dX5_takeWord_25 rfl ?_
        refine z_getI C qX5_35 dX5_takeWord_26 (fun v_10 => ?_)
        refine z_iconst (v := (1 : Int32)) C dX5_takeWord_29 rfl ?_
        refine z_iadd C dX5_takeWord_30 ?_
        refine z_putI C pX5_35 dX5_takeWord_31 (fun h_11 => ?_)
        refine z_iinc (v := x2 + (1 : Int32)) C 2 dX5_takeWord_34 [(2, .int (x2 + (1 : Int32))), (0, .ref a0), (1, .ref (g.2.2.1 x1))] rfl rfl (by decide) rfl ?_
        refine z_goto C 2 dX5_takeWord_37 rfl ?_
        exact z_lv _ [1, 2, 0] rfl (hr2 _ a0 x1 (x2 + (1 : Int32)))
      · refine z_iconst (v := (0 : Int32)) C dX5_takeWord_22 rfl ?_
        exact z_zreturn C ⟨rfl, rfl⟩ dX5_takeWord_23
def fX5_takeWord (N : Nat) (h : AH) (a0 : Nat) (x1 : Nat) : Option (Int32 × AH) :=
  zfix (fun _ _ _ _ => none) (bX5_takeWord_2 N) N h a0 x1 (0 : Int32)
theorem kX5_takeWord {l : Launch} {g : zG} (N : Nat) (h : AH) (a0 : Nat) (x1 : Nat) : zM l g yX5_takeWord cX5_takeWord 3 (some .boolean) (5) 0 0 (fun v : Int32 => some (.int v)) (fX5_takeWord N h a0 x1) h [.ref a0, .ref (g.2.2.1 x1)] := by
  refine zM.of (lv0 := [(0, .ref a0), (1, .ref (g.2.2.1 x1))]) (by decide) (Nat.le_of_ble_eq_true rfl) rfl (fun X hX C => ?_)
  subst hX
  unfold fX5_takeWord
  refine z_iconst (v := (0 : Int32)) C dX5_takeWord_0 rfl ?_
  refine z_istore_n C dX5_takeWord_1 [(2, .int (0 : Int32)), (0, .ref a0), (1, .ref (g.2.2.1 x1))] (by decide) rfl ?_
  exact z_lv _ [1, 2, 0] rfl (tX5_takeWord_2 C N N _ a0 x1 (0 : Int32))
def fX5_takeTest (N : Nat) (h : AH) (a0 : Nat) : Option (Int32 × AH) :=
  (zis h a0 5).bind fun _ =>
  zcall (fX5_sign N h a0) fun v_2 h_1 =>
  zcall (fX5_placeIn N h_1 (5 : Nat) v_2) fun v_5 h_4 =>
  (if (0) ≤ v_5 then
  (zgI h_4 a0 5 7).bind fun v_6 =>
  (zput h_4 a0 5 7 (.int (v_6 + (1 : Int32)))).bind fun h_7 =>
  (zis h_7 a0 5).bind fun _ =>
  zcall (fX5_sign N h_7 a0) fun v_9 h_8 =>
  zcall (fX5_placeIn N h_8 (6 : Nat) v_9) fun v_12 h_11 =>
  (if (0) ≤ v_12 then
  (zgI h_11 a0 5 7).bind fun v_13 =>
  (zput h_11 a0 5 7 (.int (v_13 + (1 : Int32)))).bind fun h_14 =>
  (zis h_14 a0 5).bind fun _ =>
  zcall (fX5_takeNumber N h_14 a0) fun v_16 h_15 =>
  (if v_16 = (0) then
  zret .boolean (0 : Int32) h_15
  else
  (zgI h_15 a0 5 8).bind fun v_18 =>
  (zis h_15 a0 5).bind fun _ =>
  zcall (fX5_addStep N h_15 a0 ((v_5 * (3 : Int32)) + v_12) v_18) fun v_20 h_19 =>
  (if v_20 = (0) then
  zret .boolean (0 : Int32) h_19
  else
  zret .boolean (1 : Int32) h_19))
  else
  zret .boolean (0 : Int32) h_11)
  else
  zret .boolean (0 : Int32) h_4)
theorem kX5_takeTest {l : Launch} {g : zG} (N : Nat) (h : AH) (a0 : Nat) : zM l g yX5_takeTest cX5_takeTest 3 (some .boolean) (6) 0 0 (fun v : Int32 => some (.int v)) (fX5_takeTest N h a0) h [.ref a0] := by
  refine zM.of (lv0 := [(0, .ref a0)]) (by decide) (Nat.le_of_ble_eq_true rfl) rfl (fun X hX C => ?_)
  subst hX
  unfold fX5_takeTest
  refine z_ldcS C 5 rfl dX5_takeTest_0 ?_
  refine z_aload_n C 0 dX5_takeTest_2 rfl ?_
  refine z_bind (fun _ q_3 => ?_)
  refine z_calli (z_runV (As := []) (rest := [.ref (g.2.2.1 (5 : Nat))]) C mX5_51 (kX5_sign N h a0) q_3 (Nat.le_of_ble_eq_true rfl) ⟨Nat.zero_le _, Nat.zero_le _⟩ dX5_takeTest_3 rfl rfl (Nat.le_of_ble_eq_true rfl)) rfl (fun v_2 h_1 => ?_)
  refine z_calli (z_runS (As := [.ref (g.2.2.1 (5 : Nat)), .int v_2]) (rest := []) C mX5_109 (kX5_placeIn N h_1 (5 : Nat) v_2) (Nat.le_of_ble_eq_true rfl) ⟨Nat.zero_le _, Nat.zero_le _⟩ dX5_takeTest_6 rfl rfl (Nat.le_of_ble_eq_true rfl)) rfl (fun v_5 h_4 => ?_)
  refine z_istore_n C dX5_takeTest_9 [(1, .int v_5), (0, .ref a0)] (by decide) rfl ?_
  refine z_iload_n C 0 dX5_takeTest_10 rfl ?_
  refine z_ifge C 16 dX5_takeTest_11 rfl ?_ ?_
  · refine z_aload_n C 1 dX5_takeTest_16 rfl ?_
    refine z_dup C dX5_takeTest_17 rfl ?_
    refine z_getI C qX5_35 dX5_takeTest_18 (fun v_6 => ?_)
    refine z_iconst (v := (1 : Int32)) C dX5_takeTest_21 rfl ?_
    refine z_iadd C dX5_takeTest_22 ?_
    refine z_putI C pX5_35 dX5_takeTest_23 (fun h_7 => ?_)
    refine z_ldcS C 6 rfl dX5_takeTest_26 ?_
    refine z_aload_n C 1 dX5_takeTest_28 rfl ?_
    refine z_bind (fun _ q_10 => ?_)
    refine z_calli (z_runV (As := []) (rest := [.ref (g.2.2.1 (6 : Nat))]) C mX5_51 (kX5_sign N h_7 a0) q_10 (Nat.le_of_ble_eq_true rfl) ⟨Nat.zero_le _, Nat.zero_le _⟩ dX5_takeTest_29 rfl rfl (Nat.le_of_ble_eq_true rfl)) rfl (fun v_9 h_8 => ?_)
    refine z_calli (z_runS (As := [.ref (g.2.2.1 (6 : Nat)), .int v_9]) (rest := []) C mX5_109 (kX5_placeIn N h_8 (6 : Nat) v_9) (Nat.le_of_ble_eq_true rfl) ⟨Nat.zero_le _, Nat.zero_le _⟩ dX5_takeTest_32 rfl rfl (Nat.le_of_ble_eq_true rfl)) rfl (fun v_12 h_11 => ?_)
    refine z_istore_n C dX5_takeTest_35 [(2, .int v_12), (1, .int v_5), (0, .ref a0)] (by decide) rfl ?_
    refine z_iload_n C 0 dX5_takeTest_36 rfl ?_
    refine z_ifge C 42 dX5_takeTest_37 rfl ?_ ?_
    · refine z_aload_n C 2 dX5_takeTest_42 rfl ?_
      refine z_dup C dX5_takeTest_43 rfl ?_
      refine z_getI C qX5_35 dX5_takeTest_44 (fun v_13 => ?_)
      refine z_iconst (v := (1 : Int32)) C dX5_takeTest_47 rfl ?_
      refine z_iadd C dX5_takeTest_48 ?_
      refine z_putI C pX5_35 dX5_takeTest_49 (fun h_14 => ?_)
      refine z_aload_n C 2 dX5_takeTest_52 rfl ?_
      refine z_bind (fun _ q_17 => ?_)
      refine z_calli (z_runV (As := []) (rest := []) C mX5_79 (kX5_takeNumber N h_14 a0) q_17 (Nat.le_of_ble_eq_true rfl) ⟨Nat.zero_le _, Nat.zero_le _⟩ dX5_takeTest_53 rfl rfl (Nat.le_of_ble_eq_true rfl)) rfl (fun v_16 h_15 => ?_)
      refine z_ifeq C 79 dX5_takeTest_56 rfl ?_ ?_
      · refine z_iconst (v := (0 : Int32)) C dX5_takeTest_79 rfl ?_
        exact z_zreturn C ⟨rfl, rfl⟩ dX5_takeTest_80
      · refine z_aload_n C 2 dX5_takeTest_59 rfl ?_
        refine z_iload_n C 1 dX5_takeTest_60 rfl ?_
        refine z_iconst (v := (3 : Int32)) C dX5_takeTest_61 rfl ?_
        refine z_imul C dX5_takeTest_62 ?_
        refine z_iload_n C 0 dX5_takeTest_63 rfl ?_
        refine z_iadd C dX5_takeTest_64 ?_
        refine z_aload_n C 2 dX5_takeTest_65 rfl ?_
        refine z_getI C qX5_38 dX5_takeTest_66 (fun v_18 => ?_)
        refine z_bind (fun _ q_21 => ?_)
        refine z_calli (z_runV (As := [.int ((v_5 * (3 : Int32)) + v_12), .int v_18]) (rest := []) C mX5_92 (kX5_addStep N h_15 a0 ((v_5 * (3 : Int32)) + v_12) v_18) q_21 (Nat.le_of_ble_eq_true rfl) ⟨Nat.zero_le _, Nat.zero_le _⟩ dX5_takeTest_69 rfl rfl (Nat.le_of_ble_eq_true rfl)) rfl (fun v_20 h_19 => ?_)
        refine z_ifeq C 79 dX5_takeTest_72 rfl ?_ ?_
        · refine z_iconst (v := (0 : Int32)) C dX5_takeTest_79 rfl ?_
          exact z_zreturn C ⟨rfl, rfl⟩ dX5_takeTest_80
        · refine z_iconst (v := (1 : Int32)) C dX5_takeTest_75 rfl ?_
          refine z_goto C 80 dX5_takeTest_76 rfl ?_
          exact z_zreturn C ⟨rfl, rfl⟩ dX5_takeTest_80
    · refine z_iconst (v := (0 : Int32)) C dX5_takeTest_40 rfl ?_
      exact z_zreturn C ⟨rfl, rfl⟩ dX5_takeTest_41
  · refine z_iconst (v := (0 : Int32)) C dX5_takeTest_14 rfl ?_
    exact z_zreturn C ⟨rfl, rfl⟩ dX5_takeTest_15
def bX5_takeBoth_8 (N : Nat) (rO : AH → Nat → Int32 → Option (Int32 × AH)) (r8 : AH → Nat → Int32 → Int32 → Int32 → Option (Int32 × AH)) (h : AH) (a0 : Nat) (x1 : Int32) (x2 : Int32) (x3 : Int32) : Option (Int32 × AH) :=
  (if (100 : Int32) ≤ x3 then
  zret .boolean x2 h
  else
  (if x2 = (0) then
  zret .boolean x2 h
  else
  (zis h a0 5).bind fun _ =>
  zcall (fX5_sign N h a0) fun v_2 h_1 =>
  (if v_2 = (38 : Int32) then
  (zgI h_1 a0 5 7).bind fun v_4 =>
  (zput h_1 a0 5 7 (.int (v_4 + (1 : Int32)))).bind fun h_5 =>
  (zis h_5 a0 5).bind fun _ =>
  zcall (rO h_5 a0 x1) fun v_7 h_6 =>
  (if v_7 = (0) then
  r8 h_6 a0 x1 (0 : Int32) (x3 + (1 : Int32))
  else
  (zis h_6 a0 5).bind fun _ =>
  zcall (fX5_addStep N h_6 a0 (19 : Int32) (0 : Int32)) fun v_10 h_9 =>
  (if v_10 = (0) then
  r8 h_9 a0 x1 (0 : Int32) (x3 + (1 : Int32))
  else
  r8 h_9 a0 x1 (1 : Int32) (x3 + (1 : Int32))))
  else
  zret .boolean x2 h_1)))
theorem tX5_takeBoth_8 {X : zX} {g : zG} {lev : Nat} (hlev : 2 ≤ lev) (C : zC X g yX5_takeBoth cX5_takeBoth 4 lev 0 0 (some .boolean)) (N : Nat) {rO : AH → Nat → Int32 → Option (Int32 × AH)} {lv_rO : Nat} (le_rO : lv_rO + 1 ≤ lev) (hm_rO : ∀ (h : AH) (a : Nat) (v0 : Int32), zM X.2.1 g yX5_takeOne cX5_takeOne 3 (some .boolean) lv_rO 0 0 (fun v : Int32 => some (.int v)) (rO h a v0) h [.ref a, .int v0]) (n : Nat) : ∀ (h : AH) (a0 : Nat) (x1 : Int32) (x2 : Int32) (x3 : Int32), ZZ X g 4 (0, 0, 0, 0) (fun v : Int32 => some (.int v)) (zfix (fun _ _ _ _ _ => none) (bX5_takeBoth_8 N rO) n h a0 x1 x2 x3) h 8 [(0, .ref a0), (1, .int x1), (2, .int x2), (3, .int x3)] [] := by
  induction n with
  | zero => intro h a0 x1 x2 x3; exact z_none
  | succ n hr8 =>
    intro h a0 x1 x2 x3
    show ZZ X g 4 (0, 0, 0, 0) _ (bX5_takeBoth_8 N rO (zfix (fun _ _ _ _ _ => none) (bX5_takeBoth_8 N rO) n) h a0 x1 x2 x3) h 8 _ _
    unfold bX5_takeBoth_8
    refine z_iload_n C 3 dX5_takeBoth_8 rfl ?_
    refine z_bipush (v := (100 : Int32)) C dX5_takeBoth_9 rfl ?_
    refine z_icmpge C 67 dX5_takeBoth_11 rfl ?_ ?_
    · refine z_iload_n C 2 dX5_takeBoth_67 rfl ?_
      exact z_zreturn C ⟨rfl, rfl⟩ dX5_takeBoth_68
    · refine z_iload_n C 2 dX5_takeBoth_14 rfl ?_
      refine z_ifeq C 67 dX5_takeBoth_15 rfl ?_ ?_
      · refine z_iload_n C 2 dX5_takeBoth_67 rfl ?_
        exact z_zreturn C ⟨rfl, rfl⟩ dX5_takeBoth_68
      · refine z_aload_n C 0 dX5_takeBoth_18 rfl ?_
        refine z_bind (fun _ q_3 => ?_)
        refine z_calli (z_runV (As := []) (rest := []) C mX5_51 (kX5_sign N h a0) q_3 (by omega) ⟨Nat.zero_le _, Nat.zero_le _⟩ dX5_takeBoth_19 rfl rfl (Nat.le_of_ble_eq_true rfl)) rfl (fun v_2 h_1 => ?_)
        refine z_bipush (v := (38 : Int32)) C dX5_takeBoth_22 rfl ?_
        refine z_icmpne C 67 dX5_takeBoth_24 rfl ?_ ?_
        · refine z_iload_n C 2 dX5_takeBoth_67 rfl ?_
          exact z_zreturn C ⟨rfl, rfl⟩ dX5_takeBoth_68
        · refine z_aload_n C 0 dX5_takeBoth_27 rfl ?_
          refine z_dup C dX5_takeBoth_28 rfl ?_
          refine z_getI C qX5_35 dX5_takeBoth_29 (fun v_4 => ?_)
          refine z_iconst (v := (1 : Int32)) C dX5_takeBoth_32 rfl ?_
          refine z_iadd C dX5_takeBoth_33 ?_
          refine z_putI C pX5_35 dX5_takeBoth_34 (fun h_5 => ?_)
          refine z_aload_n C 0 dX5_takeBoth_37 rfl ?_
          refine z_iload_n C 1 dX5_takeBoth_38 rfl ?_
          refine z_bind (fun _ q_8 => ?_)
          refine z_calli (z_runV (As := [.int x1]) (rest := []) C mX5_99 (hm_rO h_5 a0 x1) q_8 le_rO ⟨Nat.zero_le _, Nat.zero_le _⟩ dX5_takeBoth_39 rfl rfl (Nat.le_of_ble_eq_true rfl)) rfl (fun v_7 h_6 => ?_)
          refine z_ifeq C 59 dX5_takeBoth_42 rfl ?_ ?_
          · refine z_iconst (v := (0 : Int32)) C dX5_takeBoth_59 rfl ?_
            refine z_istore_n C dX5_takeBoth_60 [(2, .int (0 : Int32)), (0, .ref a0), (1, .int x1), (3, .int x3)] (by decide) rfl ?_
            refine z_iinc (v := x3 + (1 : Int32)) C 3 dX5_takeBoth_61 [(3, .int (x3 + (1 : Int32))), (2, .int (0 : Int32)), (0, .ref a0), (1, .int x1)] rfl rfl (by decide) rfl ?_
            refine z_goto C 8 dX5_takeBoth_64 rfl ?_
            exact z_lv _ [2, 3, 1, 0] rfl (hr8 _ a0 x1 (0 : Int32) (x3 + (1 : Int32)))
          · refine z_aload_n C 0 dX5_takeBoth_45 rfl ?_
            refine z_bipush (v := (19 : Int32)) C dX5_takeBoth_46 rfl ?_
            refine z_iconst (v := (0 : Int32)) C dX5_takeBoth_48 rfl ?_
            refine z_bind (fun _ q_11 => ?_)
            refine z_calli (z_runV (As := [.int (19 : Int32), .int (0 : Int32)]) (rest := []) C mX5_92 (kX5_addStep N h_6 a0 (19 : Int32) (0 : Int32)) q_11 (by omega) ⟨Nat.zero_le _, Nat.zero_le _⟩ dX5_takeBoth_49 rfl rfl (Nat.le_of_ble_eq_true rfl)) rfl (fun v_10 h_9 => ?_)
            refine z_ifeq C 59 dX5_takeBoth_52 rfl ?_ ?_
            · refine z_iconst (v := (0 : Int32)) C dX5_takeBoth_59 rfl ?_
              refine z_istore_n C dX5_takeBoth_60 [(2, .int (0 : Int32)), (0, .ref a0), (1, .int x1), (3, .int x3)] (by decide) rfl ?_
              refine z_iinc (v := x3 + (1 : Int32)) C 3 dX5_takeBoth_61 [(3, .int (x3 + (1 : Int32))), (2, .int (0 : Int32)), (0, .ref a0), (1, .int x1)] rfl rfl (by decide) rfl ?_
              refine z_goto C 8 dX5_takeBoth_64 rfl ?_
              exact z_lv _ [2, 3, 1, 0] rfl (hr8 _ a0 x1 (0 : Int32) (x3 + (1 : Int32)))
            · refine z_iconst (v := (1 : Int32)) C dX5_takeBoth_55 rfl ?_
              refine z_goto C 60 dX5_takeBoth_56 rfl ?_
              refine z_istore_n C dX5_takeBoth_60 [(2, .int (1 : Int32)), (0, .ref a0), (1, .int x1), (3, .int x3)] (by decide) rfl ?_
              refine z_iinc (v := x3 + (1 : Int32)) C 3 dX5_takeBoth_61 [(3, .int (x3 + (1 : Int32))), (2, .int (1 : Int32)), (0, .ref a0), (1, .int x1)] rfl rfl (by decide) rfl ?_
              refine z_goto C 8 dX5_takeBoth_64 rfl ?_
              exact z_lv _ [2, 3, 1, 0] rfl (hr8 _ a0 x1 (1 : Int32) (x3 + (1 : Int32)))
def fX5_takeBoth (N : Nat) (rO : AH → Nat → Int32 → Option (Int32 × AH)) (h : AH) (a0 : Nat) (x1 : Int32) : Option (Int32 × AH) :=
  (zis h a0 5).bind fun _ =>
  zcall (rO h a0 x1) fun v_2 h_1 =>
  zfix (fun _ _ _ _ _ => none) (bX5_takeBoth_8 N rO) N h_1 a0 x1 v_2 (0 : Int32)
theorem kX5_takeBoth {l : Launch} {g : zG} {lev : Nat} (hlev : 2 ≤ lev) (N : Nat) {rO : AH → Nat → Int32 → Option (Int32 × AH)} {lv_rO : Nat} (le_rO : lv_rO + 1 ≤ lev) (hm_rO : ∀ (h : AH) (a : Nat) (v0 : Int32), zM l g yX5_takeOne cX5_takeOne 3 (some .boolean) lv_rO 0 0 (fun v : Int32 => some (.int v)) (rO h a v0) h [.ref a, .int v0]) (h : AH) (a0 : Nat) (x1 : Int32) : zM l g yX5_takeBoth cX5_takeBoth 4 (some .boolean) lev 0 0 (fun v : Int32 => some (.int v)) (fX5_takeBoth N rO h a0 x1) h [.ref a0, .int x1] := by
  refine zM.of (lv0 := [(0, .ref a0), (1, .int x1)]) (by decide) (Nat.le_of_ble_eq_true rfl) rfl (fun X hX C => ?_)
  subst hX
  unfold fX5_takeBoth
  refine z_aload_n C 0 dX5_takeBoth_0 rfl ?_
  refine z_iload_n C 1 dX5_takeBoth_1 rfl ?_
  refine z_bind (fun _ q_3 => ?_)
  refine z_calli (z_runV (As := [.int x1]) (rest := []) C mX5_99 (hm_rO h a0 x1) q_3 le_rO ⟨Nat.zero_le _, Nat.zero_le _⟩ dX5_takeBoth_2 rfl rfl (Nat.le_of_ble_eq_true rfl)) rfl (fun v_2 h_1 => ?_)
  refine z_istore_n C dX5_takeBoth_5 [(2, .int v_2), (0, .ref a0), (1, .int x1)] (by decide) rfl ?_
  refine z_iconst (v := (0 : Int32)) C dX5_takeBoth_6 rfl ?_
  refine z_istore_n C dX5_takeBoth_7 [(3, .int (0 : Int32)), (2, .int v_2), (0, .ref a0), (1, .int x1)] (by decide) rfl ?_
  exact z_lv _ [2, 3, 1, 0] rfl (tX5_takeBoth_8 hlev C N le_rO hm_rO N _ a0 x1 v_2 (0 : Int32))
def bX5_takeEither_8 (N : Nat) (rB : AH → Nat → Int32 → Option (Int32 × AH)) (r8 : AH → Nat → Int32 → Int32 → Int32 → Option (Int32 × AH)) (h : AH) (a0 : Nat) (x1 : Int32) (x2 : Int32) (x3 : Int32) : Option (Int32 × AH) :=
  (if (100 : Int32) ≤ x3 then
  zret .boolean x2 h
  else
  (if x2 = (0) then
  zret .boolean x2 h
  else
  (zis h a0 5).bind fun _ =>
  zcall (fX5_sign N h a0) fun v_2 h_1 =>
  (if v_2 = (124 : Int32) then
  (zgI h_1 a0 5 7).bind fun v_4 =>
  (zput h_1 a0 5 7 (.int (v_4 + (1 : Int32)))).bind fun h_5 =>
  (zis h_5 a0 5).bind fun _ =>
  zcall (rB h_5 a0 x1) fun v_7 h_6 =>
  (if v_7 = (0) then
  r8 h_6 a0 x1 (0 : Int32) (x3 + (1 : Int32))
  else
  (zis h_6 a0 5).bind fun _ =>
  zcall (fX5_addStep N h_6 a0 (20 : Int32) (0 : Int32)) fun v_10 h_9 =>
  (if v_10 = (0) then
  r8 h_9 a0 x1 (0 : Int32) (x3 + (1 : Int32))
  else
  r8 h_9 a0 x1 (1 : Int32) (x3 + (1 : Int32))))
  else
  zret .boolean x2 h_1)))
theorem tX5_takeEither_8 {X : zX} {g : zG} {lev : Nat} (hlev : 2 ≤ lev) (C : zC X g yX5_takeEither cX5_takeEither 4 lev 0 0 (some .boolean)) (N : Nat) {rB : AH → Nat → Int32 → Option (Int32 × AH)} {lv_rB : Nat} (le_rB : lv_rB + 1 ≤ lev) (hm_rB : ∀ (h : AH) (a : Nat) (v0 : Int32), zM X.2.1 g yX5_takeBoth cX5_takeBoth 4 (some .boolean) lv_rB 0 0 (fun v : Int32 => some (.int v)) (rB h a v0) h [.ref a, .int v0]) (n : Nat) : ∀ (h : AH) (a0 : Nat) (x1 : Int32) (x2 : Int32) (x3 : Int32), ZZ X g 4 (0, 0, 0, 0) (fun v : Int32 => some (.int v)) (zfix (fun _ _ _ _ _ => none) (bX5_takeEither_8 N rB) n h a0 x1 x2 x3) h 8 [(0, .ref a0), (1, .int x1), (2, .int x2), (3, .int x3)] [] := by
  induction n with
  | zero => intro h a0 x1 x2 x3; exact z_none
  | succ n hr8 =>
    intro h a0 x1 x2 x3
    show ZZ X g 4 (0, 0, 0, 0) _ (bX5_takeEither_8 N rB (zfix (fun _ _ _ _ _ => none) (bX5_takeEither_8 N rB) n) h a0 x1 x2 x3) h 8 _ _
    unfold bX5_takeEither_8
    refine z_iload_n C 3 dX5_takeEither_8 rfl ?_
    refine z_bipush (v := (100 : Int32)) C dX5_takeEither_9 rfl ?_
    refine z_icmpge C 67 dX5_takeEither_11 rfl ?_ ?_
    · refine z_iload_n C 2 dX5_takeEither_67 rfl ?_
      exact z_zreturn C ⟨rfl, rfl⟩ dX5_takeEither_68
    · refine z_iload_n C 2 dX5_takeEither_14 rfl ?_
      refine z_ifeq C 67 dX5_takeEither_15 rfl ?_ ?_
      · refine z_iload_n C 2 dX5_takeEither_67 rfl ?_
        exact z_zreturn C ⟨rfl, rfl⟩ dX5_takeEither_68
      · refine z_aload_n C 0 dX5_takeEither_18 rfl ?_
        refine z_bind (fun _ q_3 => ?_)
        refine z_calli (z_runV (As := []) (rest := []) C mX5_51 (kX5_sign N h a0) q_3 (by omega) ⟨Nat.zero_le _, Nat.zero_le _⟩ dX5_takeEither_19 rfl rfl (Nat.le_of_ble_eq_true rfl)) rfl (fun v_2 h_1 => ?_)
        refine z_bipush (v := (124 : Int32)) C dX5_takeEither_22 rfl ?_
        refine z_icmpne C 67 dX5_takeEither_24 rfl ?_ ?_
        · refine z_iload_n C 2 dX5_takeEither_67 rfl ?_
          exact z_zreturn C ⟨rfl, rfl⟩ dX5_takeEither_68
        · refine z_aload_n C 0 dX5_takeEither_27 rfl ?_
          refine z_dup C dX5_takeEither_28 rfl ?_
          refine z_getI C qX5_35 dX5_takeEither_29 (fun v_4 => ?_)
          refine z_iconst (v := (1 : Int32)) C dX5_takeEither_32 rfl ?_
          refine z_iadd C dX5_takeEither_33 ?_
          refine z_putI C pX5_35 dX5_takeEither_34 (fun h_5 => ?_)
          refine z_aload_n C 0 dX5_takeEither_37 rfl ?_
          refine z_iload_n C 1 dX5_takeEither_38 rfl ?_
          refine z_bind (fun _ q_8 => ?_)
          refine z_calli (z_runV (As := [.int x1]) (rest := []) C mX5_96 (hm_rB h_5 a0 x1) q_8 le_rB ⟨Nat.zero_le _, Nat.zero_le _⟩ dX5_takeEither_39 rfl rfl (Nat.le_of_ble_eq_true rfl)) rfl (fun v_7 h_6 => ?_)
          refine z_ifeq C 59 dX5_takeEither_42 rfl ?_ ?_
          · refine z_iconst (v := (0 : Int32)) C dX5_takeEither_59 rfl ?_
            refine z_istore_n C dX5_takeEither_60 [(2, .int (0 : Int32)), (0, .ref a0), (1, .int x1), (3, .int x3)] (by decide) rfl ?_
            refine z_iinc (v := x3 + (1 : Int32)) C 3 dX5_takeEither_61 [(3, .int (x3 + (1 : Int32))), (2, .int (0 : Int32)), (0, .ref a0), (1, .int x1)] rfl rfl (by decide) rfl ?_
            refine z_goto C 8 dX5_takeEither_64 rfl ?_
            exact z_lv _ [2, 3, 1, 0] rfl (hr8 _ a0 x1 (0 : Int32) (x3 + (1 : Int32)))
          · refine z_aload_n C 0 dX5_takeEither_45 rfl ?_
            refine z_bipush (v := (20 : Int32)) C dX5_takeEither_46 rfl ?_
            refine z_iconst (v := (0 : Int32)) C dX5_takeEither_48 rfl ?_
            refine z_bind (fun _ q_11 => ?_)
            refine z_calli (z_runV (As := [.int (20 : Int32), .int (0 : Int32)]) (rest := []) C mX5_92 (kX5_addStep N h_6 a0 (20 : Int32) (0 : Int32)) q_11 (by omega) ⟨Nat.zero_le _, Nat.zero_le _⟩ dX5_takeEither_49 rfl rfl (Nat.le_of_ble_eq_true rfl)) rfl (fun v_10 h_9 => ?_)
            refine z_ifeq C 59 dX5_takeEither_52 rfl ?_ ?_
            · refine z_iconst (v := (0 : Int32)) C dX5_takeEither_59 rfl ?_
              refine z_istore_n C dX5_takeEither_60 [(2, .int (0 : Int32)), (0, .ref a0), (1, .int x1), (3, .int x3)] (by decide) rfl ?_
              refine z_iinc (v := x3 + (1 : Int32)) C 3 dX5_takeEither_61 [(3, .int (x3 + (1 : Int32))), (2, .int (0 : Int32)), (0, .ref a0), (1, .int x1)] rfl rfl (by decide) rfl ?_
              refine z_goto C 8 dX5_takeEither_64 rfl ?_
              exact z_lv _ [2, 3, 1, 0] rfl (hr8 _ a0 x1 (0 : Int32) (x3 + (1 : Int32)))
            · refine z_iconst (v := (1 : Int32)) C dX5_takeEither_55 rfl ?_
              refine z_goto C 60 dX5_takeEither_56 rfl ?_
              refine z_istore_n C dX5_takeEither_60 [(2, .int (1 : Int32)), (0, .ref a0), (1, .int x1), (3, .int x3)] (by decide) rfl ?_
              refine z_iinc (v := x3 + (1 : Int32)) C 3 dX5_takeEither_61 [(3, .int (x3 + (1 : Int32))), (2, .int (1 : Int32)), (0, .ref a0), (1, .int x1)] rfl rfl (by decide) rfl ?_
              refine z_goto C 8 dX5_takeEither_64 rfl ?_
              exact z_lv _ [2, 3, 1, 0] rfl (hr8 _ a0 x1 (1 : Int32) (x3 + (1 : Int32)))
def fX5_takeEither (N : Nat) (rB : AH → Nat → Int32 → Option (Int32 × AH)) (h : AH) (a0 : Nat) (x1 : Int32) : Option (Int32 × AH) :=
  (zis h a0 5).bind fun _ =>
  zcall (rB h a0 x1) fun v_2 h_1 =>
  zfix (fun _ _ _ _ _ => none) (bX5_takeEither_8 N rB) N h_1 a0 x1 v_2 (0 : Int32)
theorem kX5_takeEither {l : Launch} {g : zG} {lev : Nat} (hlev : 2 ≤ lev) (N : Nat) {rB : AH → Nat → Int32 → Option (Int32 × AH)} {lv_rB : Nat} (le_rB : lv_rB + 1 ≤ lev) (hm_rB : ∀ (h : AH) (a : Nat) (v0 : Int32), zM l g yX5_takeBoth cX5_takeBoth 4 (some .boolean) lv_rB 0 0 (fun v : Int32 => some (.int v)) (rB h a v0) h [.ref a, .int v0]) (h : AH) (a0 : Nat) (x1 : Int32) : zM l g yX5_takeEither cX5_takeEither 4 (some .boolean) lev 0 0 (fun v : Int32 => some (.int v)) (fX5_takeEither N rB h a0 x1) h [.ref a0, .int x1] := by
  refine zM.of (lv0 := [(0, .ref a0), (1, .int x1)]) (by decide) (Nat.le_of_ble_eq_true rfl) rfl (fun X hX C => ?_)
  subst hX
  unfold fX5_takeEither
  refine z_aload_n C 0 dX5_takeEither_0 rfl ?_
  refine z_iload_n C 1 dX5_takeEither_1 rfl ?_
  refine z_bind (fun _ q_3 => ?_)
  refine z_calli (z_runV (As := [.int x1]) (rest := []) C mX5_96 (hm_rB h a0 x1) q_3 le_rB ⟨Nat.zero_le _, Nat.zero_le _⟩ dX5_takeEither_2 rfl rfl (Nat.le_of_ble_eq_true rfl)) rfl (fun v_2 h_1 => ?_)
  refine z_istore_n C dX5_takeEither_5 [(2, .int v_2), (0, .ref a0), (1, .int x1)] (by decide) rfl ?_
  refine z_iconst (v := (0 : Int32)) C dX5_takeEither_6 rfl ?_
  refine z_istore_n C dX5_takeEither_7 [(3, .int (0 : Int32)), (2, .int v_2), (0, .ref a0), (1, .int x1)] (by decide) rfl ?_
  exact z_lv _ [2, 3, 1, 0] rfl (tX5_takeEither_8 hlev C N le_rB hm_rB N _ a0 x1 v_2 (0 : Int32))
def bX5_takeOne_22 (N : Nat) (rO : AH → Nat → Int32 → Option (Int32 × AH)) (rE : AH → Nat → Int32 → Option (Int32 × AH)) (h : AH) (a0 : Nat) (x1 : Int32) (x2 : Int32) : Option (Int32 × AH) :=
  (if x1 < (4 : Int32) then
  (zgI h a0 5 7).bind fun v_1 =>
  (zput h a0 5 7 (.int (v_1 + (1 : Int32)))).bind fun h_2 =>
  (if x2 = (33 : Int32) then
  (zis h_2 a0 5).bind fun _ =>
  zcall (rO h_2 a0 (x1 + (1 : Int32))) fun v_10 h_9 =>
  (if v_10 = (0) then
  zret .boolean (0 : Int32) h_9
  else
  (zis h_9 a0 5).bind fun _ =>
  zcall (fX5_addStep N h_9 a0 (21 : Int32) (0 : Int32)) fun v_13 h_12 =>
  (if v_13 = (0) then
  zret .boolean (0 : Int32) h_12
  else
  zret .boolean (1 : Int32) h_12))
  else
  (zis h_2 a0 5).bind fun _ =>
  zcall (rE h_2 a0 (x1 + (1 : Int32))) fun v_4 h_3 =>
  (if v_4 = (0) then
  zret .boolean (0 : Int32) h_3
  else
  (zis h_3 a0 5).bind fun _ =>
  zcall (fX5_takeWord N h_3 a0 (4 : Nat)) fun v_7 h_6 =>
  (if v_7 = (0) then
  zret .boolean (0 : Int32) h_6
  else
  zret .boolean (1 : Int32) h_6)))
  else
  zret .boolean (0 : Int32) h)
theorem tX5_takeOne_22 {X : zX} {g : zG} {lev : Nat} (hlev : 7 ≤ lev) (C : zC X g yX5_takeOne cX5_takeOne 3 lev 0 0 (some .boolean)) (N : Nat) {rO : AH → Nat → Int32 → Option (Int32 × AH)} {lv_rO : Nat} (le_rO : lv_rO + 1 ≤ lev) (hm_rO : ∀ (h : AH) (a : Nat) (v0 : Int32), zM X.2.1 g yX5_takeOne cX5_takeOne 3 (some .boolean) lv_rO 0 0 (fun v : Int32 => some (.int v)) (rO h a v0) h [.ref a, .int v0]) {rE : AH → Nat → Int32 → Option (Int32 × AH)} {lv_rE : Nat} (le_rE : lv_rE + 1 ≤ lev) (hm_rE : ∀ (h : AH) (a : Nat) (v0 : Int32), zM X.2.1 g yX5_takeEither cX5_takeEither 4 (some .boolean) lv_rE 0 0 (fun v : Int32 => some (.int v)) (rE h a v0) h [.ref a, .int v0]) (h : AH) (a0 : Nat) (x1 : Int32) (x2 : Int32) : ZZ X g 3 (0, 0, 0, 0) (fun v : Int32 => some (.int v)) (bX5_takeOne_22 N rO rE h a0 x1 x2) h 22 [(0, .ref a0), (1, .int x1), (2, .int x2)] [] := by
  unfold bX5_takeOne_22
  refine z_iload_n C 1 dX5_takeOne_22 rfl ?_
  refine z_iconst (v := (4 : Int32)) C dX5_takeOne_23 rfl ?_
  refine z_icmplt C 29 dX5_takeOne_24 rfl ?_ ?_
  · refine z_aload_n C 0 dX5_takeOne_29 rfl ?_
    refine z_dup C dX5_takeOne_30 rfl ?_
    refine z_getI C qX5_35 dX5_takeOne_31 (fun v_1 => ?_)
    refine z_iconst (v := (1 : Int32)) C dX5_takeOne_34 rfl ?_
    refine z_iadd C dX5_takeOne_35 ?_
    refine z_putI C pX5_35 dX5_takeOne_36 (fun h_2 => ?_)
    refine z_iload_n C 2 dX5_takeOne_39 rfl ?_
    refine z_bipush (v := (33 : Int32)) C dX5_takeOne_40 rfl ?_
    refine z_icmpne C 71 dX5_takeOne_42 rfl ?_ ?_
    · refine z_aload_n C 0 dX5_takeOne_71 rfl ?_
      refine z_iload_n C 1 dX5_takeOne_72 rfl ?_
      refine z_iconst (v := (1 : Int32)) C dX5_takeOne_73 rfl ?_
      refine z_iadd C dX5_takeOne_74 ?_
      refine z_bind (fun _ q_5 => ?_)
      refine z_calli (z_runV (As := [.int (x1 + (1 : Int32))]) (rest := []) C mX5_88 (hm_rE h_2 a0 (x1 + (1 : Int32))) q_5 le_rE ⟨Nat.zero_le _, Nat.zero_le _⟩ dX5_takeOne_75 rfl rfl (Nat.le_of_ble_eq_true rfl)) rfl (fun v_4 h_3 => ?_)
      refine z_ifeq C 94 dX5_takeOne_78 rfl ?_ ?_
      · refine z_iconst (v := (0 : Int32)) C dX5_takeOne_94 rfl ?_
        exact z_zreturn C ⟨rfl, rfl⟩ dX5_takeOne_95
      · refine z_aload_n C 0 dX5_takeOne_81 rfl ?_
        refine z_ldcS C 4 rfl dX5_takeOne_82 ?_
        refine z_bind (fun _ q_8 => ?_)
        refine z_calli (z_runV (As := [.ref (g.2.2.1 (4 : Nat))]) (rest := []) C mX5_75 (kX5_takeWord N h_3 a0 (4 : Nat)) q_8 (by omega) ⟨Nat.zero_le _, Nat.zero_le _⟩ dX5_takeOne_84 rfl rfl (Nat.le_of_ble_eq_true rfl)) rfl (fun v_7 h_6 => ?_)
        refine z_ifeq C 94 dX5_takeOne_87 rfl ?_ ?_
        · refine z_iconst (v := (0 : Int32)) C dX5_takeOne_94 rfl ?_
          exact z_zreturn C ⟨rfl, rfl⟩ dX5_takeOne_95
        · refine z_iconst (v := (1 : Int32)) C dX5_takeOne_90 rfl ?_
          refine z_goto C 95 dX5_takeOne_91 rfl ?_
          exact z_zreturn C ⟨rfl, rfl⟩ dX5_takeOne_95
    · refine z_aload_n C 0 dX5_takeOne_45 rfl ?_
      refine z_iload_n C 1 dX5_takeOne_46 rfl ?_
      refine z_iconst (v := (1 : Int32)) C dX5_takeOne_47 rfl ?_
      refine z_iadd C dX5_takeOne_48 ?_
      refine z_bind (fun _ q_11 => ?_)
      refine z_calli (z_runV (As := [.int (x1 + (1 : Int32))]) (rest := []) C mX5_99 (hm_rO h_2 a0 (x1 + (1 : Int32))) q_11 le_rO ⟨Nat.zero_le _, Nat.zero_le _⟩ dX5_takeOne_49 rfl rfl (Nat.le_of_ble_eq_true rfl)) rfl (fun v_10 h_9 => ?_)
      refine z_ifeq C 69 dX5_takeOne_52 rfl ?_ ?_
      · refine z_iconst (v := (0 : Int32)) C dX5_takeOne_69 rfl ?_
        exact z_zreturn C ⟨rfl, rfl⟩ dX5_takeOne_70
      · refine z_aload_n C 0 dX5_takeOne_55 rfl ?_
        refine z_bipush (v := (21 : Int32)) C dX5_takeOne_56 rfl ?_
        refine z_iconst (v := (0 : Int32)) C dX5_takeOne_58 rfl ?_
        refine z_bind (fun _ q_14 => ?_)
        refine z_calli (z_runV (As := [.int (21 : Int32), .int (0 : Int32)]) (rest := []) C mX5_92 (kX5_addStep N h_9 a0 (21 : Int32) (0 : Int32)) q_14 (by omega) ⟨Nat.zero_le _, Nat.zero_le _⟩ dX5_takeOne_59 rfl rfl (Nat.le_of_ble_eq_true rfl)) rfl (fun v_13 h_12 => ?_)
        refine z_ifeq C 69 dX5_takeOne_62 rfl ?_ ?_
        · refine z_iconst (v := (0 : Int32)) C dX5_takeOne_69 rfl ?_
          exact z_zreturn C ⟨rfl, rfl⟩ dX5_takeOne_70
        · refine z_iconst (v := (1 : Int32)) C dX5_takeOne_65 rfl ?_
          refine z_goto C 70 dX5_takeOne_66 rfl ?_
          exact z_zreturn C ⟨rfl, rfl⟩ dX5_takeOne_70
  · refine z_iconst (v := (0 : Int32)) C dX5_takeOne_27 rfl ?_
    exact z_zreturn C ⟨rfl, rfl⟩ dX5_takeOne_28
def fX5_takeOne (N : Nat) (rO : AH → Nat → Int32 → Option (Int32 × AH)) (rE : AH → Nat → Int32 → Option (Int32 × AH)) (h : AH) (a0 : Nat) (x1 : Int32) : Option (Int32 × AH) :=
  (zis h a0 5).bind fun _ =>
  zcall (fX5_sign N h a0) fun v_2 h_1 =>
  (if v_2 = (33 : Int32) then
  bX5_takeOne_22 N rO rE h_1 a0 x1 v_2
  else
  (if v_2 = (40 : Int32) then
  bX5_takeOne_22 N rO rE h_1 a0 x1 v_2
  else
  (zis h_1 a0 5).bind fun _ =>
  zcall (fX5_takeTest N h_1 a0) fun v_5 h_4 =>
  zret .boolean v_5 h_4))
theorem kX5_takeOne {l : Launch} {g : zG} {lev : Nat} (hlev : 7 ≤ lev) (N : Nat) {rO : AH → Nat → Int32 → Option (Int32 × AH)} {lv_rO : Nat} (le_rO : lv_rO + 1 ≤ lev) (hm_rO : ∀ (h : AH) (a : Nat) (v0 : Int32), zM l g yX5_takeOne cX5_takeOne 3 (some .boolean) lv_rO 0 0 (fun v : Int32 => some (.int v)) (rO h a v0) h [.ref a, .int v0]) {rE : AH → Nat → Int32 → Option (Int32 × AH)} {lv_rE : Nat} (le_rE : lv_rE + 1 ≤ lev) (hm_rE : ∀ (h : AH) (a : Nat) (v0 : Int32), zM l g yX5_takeEither cX5_takeEither 4 (some .boolean) lv_rE 0 0 (fun v : Int32 => some (.int v)) (rE h a v0) h [.ref a, .int v0]) (h : AH) (a0 : Nat) (x1 : Int32) : zM l g yX5_takeOne cX5_takeOne 3 (some .boolean) lev 0 0 (fun v : Int32 => some (.int v)) (fX5_takeOne N rO rE h a0 x1) h [.ref a0, .int x1] := by
  refine zM.of (lv0 := [(0, .ref a0), (1, .int x1)]) (by decide) (Nat.le_of_ble_eq_true rfl) rfl (fun X hX C => ?_)
  subst hX
  unfold fX5_takeOne
  refine z_aload_n C 0 dX5_takeOne_0 rfl ?_
  refine z_bind (fun _ q_3 => ?_)
  refine z_calli (z_runV (As := []) (rest := []) C mX5_51 (kX5_sign N h a0) q_3 (by omega) ⟨Nat.zero_le _, Nat.zero_le _⟩ dX5_takeOne_1 rfl rfl (Nat.le_of_ble_eq_true rfl)) rfl (fun v_2 h_1 => ?_)
  refine z_istore_n C dX5_takeOne_4 [(2, .int v_2), (0, .ref a0), (1, .int x1)] (by decide) rfl ?_
  refine z_iload_n C 0 dX5_takeOne_5 rfl ?_
  refine z_bipush (v := (33 : Int32)) C dX5_takeOne_6 rfl ?_
  refine z_icmpeq C 22 dX5_takeOne_8 rfl ?_ ?_
  · exact z_lv _ [1, 2, 0] rfl (tX5_takeOne_22 hlev C N le_rO hm_rO le_rE hm_rE _ a0 x1 v_2)
  · refine z_iload_n C 0 dX5_takeOne_11 rfl ?_
    refine z_bipush (v := (40 : Int32)) C dX5_takeOne_12 rfl ?_
    refine z_icmpeq C 22 dX5_takeOne_14 rfl ?_ ?_
    · exact z_lv _ [1, 2, 0] rfl (tX5_takeOne_22 hlev C N le_rO hm_rO le_rE hm_rE _ a0 x1 v_2)
    · refine z_aload_n C 1 dX5_takeOne_17 rfl ?_
      refine z_bind (fun _ q_6 => ?_)
      refine z_calli (z_runV (As := []) (rest := []) C mX5_102 (kX5_takeTest N h_1 a0) q_6 (by omega) ⟨Nat.zero_le _, Nat.zero_le _⟩ dX5_takeOne_18 rfl rfl (Nat.le_of_ble_eq_true rfl)) rfl (fun v_5 h_4 => ?_)
      exact z_zreturn C ⟨rfl, rfl⟩ dX5_takeOne_21
def gX5_takeOne (N d : Nat) : AH → Nat → Int32 → Option (Int32 × AH) := zfix (fun _ _ _ => none) (fun r => fX5_takeOne N r (fX5_takeEither N (fX5_takeBoth N r))) d
def gX5_takeEither (N d : Nat) : AH → Nat → Int32 → Option (Int32 × AH) := fX5_takeEither N (fX5_takeBoth N (gX5_takeOne N d))
def gX5_takeBoth (N d : Nat) : AH → Nat → Int32 → Option (Int32 × AH) := fX5_takeBoth N (gX5_takeOne N d)
theorem kgX5_takeOne' {l : Launch} {g : zG} (N d : Nat) : ∀ (h : AH) (a : Nat) (v0 : Int32), zM l g yX5_takeOne cX5_takeOne 3 (some .boolean) (7 + 3 * d) 0 0 (fun v : Int32 => some (.int v)) (gX5_takeOne N d h a v0) h [.ref a, .int v0] := by
  induction d with
  | zero => intro h a v0 r h' E; cases E
  | succ d ih =>
    intro h a v0
    exact kX5_takeOne (by omega) N (lv_rO := (7 + 3 * d + 0)) (by omega) ih (lv_rE := (7 + 3 * d + 2)) (by omega) (fun h a v0 => kX5_takeEither (by omega) N (lv_rB := (7 + 3 * d + 1)) (by omega) (fun h a v0 => kX5_takeBoth (by omega) N (lv_rO := (7 + 3 * d + 0)) (by omega) ih h a v0) h a v0) h a v0
theorem kgX5_takeOne {l : Launch} {g : zG} (N d : Nat) : ∀ (h : AH) (a : Nat) (v0 : Int32), zM l g yX5_takeOne cX5_takeOne 3 (some .boolean) (7 + 3 * d) 0 0 (fun v : Int32 => some (.int v)) (gX5_takeOne N d h a v0) h [.ref a, .int v0] := kgX5_takeOne' N d
theorem kgX5_takeEither {l : Launch} {g : zG} (N d : Nat) : ∀ (h : AH) (a : Nat) (v0 : Int32), zM l g yX5_takeEither cX5_takeEither 4 (some .boolean) (7 + 3 * d + 2) 0 0 (fun v : Int32 => some (.int v)) (gX5_takeEither N d h a v0) h [.ref a, .int v0] := fun h a v0 => kX5_takeEither (by omega) N (lv_rB := (7 + 3 * d + 1)) (by omega) (fun h a v0 => kX5_takeBoth (by omega) N (lv_rO := (7 + 3 * d + 0)) (by omega) (kgX5_takeOne' N d) h a v0) h a v0
theorem kgX5_takeBoth {l : Launch} {g : zG} (N d : Nat) : ∀ (h : AH) (a : Nat) (v0 : Int32), zM l g yX5_takeBoth cX5_takeBoth 4 (some .boolean) (7 + 3 * d + 1) 0 0 (fun v : Int32 => some (.int v)) (gX5_takeBoth N d h a v0) h [.ref a, .int v0] := fun h a v0 => kX5_takeBoth (by omega) N (lv_rO := (7 + 3 * d + 0)) (by omega) (kgX5_takeOne' N d) h a v0
def bX5_takeClause_128 (N : Nat) (h : AH) (x2 : Int32) (s0 : Nat) (s1 : Int32) : Option (Int32 × AH) :=
  (zis h s0 5).bind fun _ =>
  zcall (fX5_addStep N h s0 s1 x2) fun v_2 h_1 =>
  (if v_2 = (0) then
  zret .boolean (0 : Int32) h_1
  else
  zret .boolean (1 : Int32) h_1)
theorem tX5_takeClause_128 {X : zX} {g : zG} (C : zC X g yX5_takeClause cX5_takeClause 3 28 0 0 (some .boolean)) (N : Nat) (h : AH) (x2 : Int32) (s0 : Nat) (s1 : Int32) : ZZ X g 3 (0, 0, 0, 0) (fun v : Int32 => some (.int v)) (bX5_takeClause_128 N h x2 s0 s1) h 128 [(2, .int x2)] [.int s1, .ref s0] := by
  unfold bX5_takeClause_128
  refine z_iload_n C 0 dX5_takeClause_128 rfl ?_
  refine z_bind (fun _ q_3 => ?_)
  refine z_calli (z_runV (As := [.int s1, .int x2]) (rest := []) C mX5_92 (kX5_addStep N h s0 s1 x2) q_3 (Nat.le_of_ble_eq_true rfl) ⟨Nat.zero_le _, Nat.zero_le _⟩ dX5_takeClause_129 rfl rfl (Nat.le_of_ble_eq_true rfl)) rfl (fun v_2 h_1 => ?_)
  refine z_ifeq C 139 dX5_takeClause_132 rfl ?_ ?_
  · refine z_iconst (v := (0 : Int32)) C dX5_takeClause_139 rfl ?_
    exact z_zreturn C ⟨rfl, rfl⟩ dX5_takeClause_140
  · refine z_iconst (v := (1 : Int32)) C dX5_takeClause_135 rfl ?_
    refine z_goto C 140 dX5_takeClause_136 rfl ?_
    exact z_zreturn C ⟨rfl, rfl⟩ dX5_takeClause_140
def bX5_takeClause_79 (N : Nat) (h : AH) (a0 : Nat) (x1 : Int32) (s0 : Nat) (s1 : Nat) : Option (Int32 × AH) :=
  (zis h s0 5).bind fun _ =>
  zcall (fX5_takeWord N h s0 s1) fun v_2 h_1 =>
  (if v_2 = (0) then
  zret .boolean (0 : Int32) h_1
  else
  (zis h_1 a0 5).bind fun _ =>
  zcall (fX5_takeNumber N h_1 a0) fun v_5 h_4 =>
  (if v_5 = (0) then
  zret .boolean (0 : Int32) h_4
  else
  (zgI h_4 a0 5 8).bind fun v_7 =>
  (zis h_4 a0 5).bind fun _ =>
  zcall (fX5_takeWord N h_4 a0 (3 : Nat)) fun v_9 h_8 =>
  (if v_9 = (0) then
  zret .boolean (0 : Int32) h_8
  else
  (zis h_8 a0 5).bind fun _ =>
  zcall (gX5_takeEither N 6 h_8 a0 (0 : Int32)) fun v_12 h_11 =>
  (if v_12 = (0) then
  zret .boolean (0 : Int32) h_11
  else
  (if x1 = (0) then
  bX5_takeClause_128 N h_11 v_7 a0 (23 : Int32)
  else
  bX5_takeClause_128 N h_11 v_7 a0 (22 : Int32))))))
theorem tX5_takeClause_79 {X : zX} {g : zG} (C : zC X g yX5_takeClause cX5_takeClause 3 28 0 0 (some .boolean)) (N : Nat) (h : AH) (a0 : Nat) (x1 : Int32) (s0 : Nat) (s1 : Nat) : ZZ X g 3 (0, 0, 0, 0) (fun v : Int32 => some (.int v)) (bX5_takeClause_79 N h a0 x1 s0 s1) h 79 [(0, .ref a0), (1, .int x1)] [.ref (g.2.2.1 s1), .ref s0] := by
  unfold bX5_takeClause_79
  refine z_bind (fun _ q_3 => ?_)
  refine z_calli (z_runV (As := [.ref (g.2.2.1 s1)]) (rest := []) C mX5_75 (kX5_takeWord N h s0 s1) q_3 (Nat.le_of_ble_eq_true rfl) ⟨Nat.zero_le _, Nat.zero_le _⟩ dX5_takeClause_79 rfl rfl (Nat.le_of_ble_eq_true rfl)) rfl (fun v_2 h_1 => ?_)
  refine z_ifeq C 92 dX5_takeClause_82 rfl ?_ ?_
  · refine z_iconst (v := (0 : Int32)) C dX5_takeClause_92 rfl ?_
    exact z_zreturn C ⟨rfl, rfl⟩ dX5_takeClause_93
  · refine z_aload_n C 0 dX5_takeClause_85 rfl ?_
    refine z_bind (fun _ q_6 => ?_)
    refine z_calli (z_runV (As := []) (rest := []) C mX5_79 (kX5_takeNumber N h_1 a0) q_6 (Nat.le_of_ble_eq_true rfl) ⟨Nat.zero_le _, Nat.zero_le _⟩ dX5_takeClause_86 rfl rfl (Nat.le_of_ble_eq_true rfl)) rfl (fun v_5 h_4 => ?_)
    refine z_ifne C 94 dX5_takeClause_89 rfl ?_ ?_
    · refine z_aload_n C 0 dX5_takeClause_94 rfl ?_
      refine z_getI C qX5_38 dX5_takeClause_95 (fun v_7 => ?_)
      refine z_istore_n C dX5_takeClause_98 [(2, .int v_7), (0, .ref a0), (1, .int x1)] (by decide) rfl ?_
      refine z_aload_n C 1 dX5_takeClause_99 rfl ?_
      refine z_ldcS C 3 rfl dX5_takeClause_100 ?_
      refine z_bind (fun _ q_10 => ?_)
      refine z_calli (z_runV (As := [.ref (g.2.2.1 (3 : Nat))]) (rest := []) C mX5_75 (kX5_takeWord N h_4 a0 (3 : Nat)) q_10 (Nat.le_of_ble_eq_true rfl) ⟨Nat.zero_le _, Nat.zero_le _⟩ dX5_takeClause_102 rfl rfl (Nat.le_of_ble_eq_true rfl)) rfl (fun v_9 h_8 => ?_)
      refine z_ifeq C 139 dX5_takeClause_105 rfl ?_ ?_
      · refine z_iconst (v := (0 : Int32)) C dX5_takeClause_139 rfl ?_
        exact z_zreturn C ⟨rfl, rfl⟩ dX5_takeClause_140
      · refine z_aload_n C 1 dX5_takeClause_108 rfl ?_
        refine z_iconst (v := (0 : Int32)) C dX5_takeClause_109 rfl ?_
        refine z_bind (fun _ q_13 => ?_)
        refine z_calli (z_runV (As := [.int (0 : Int32)]) (rest := []) C mX5_88 (kgX5_takeEither N 6 h_8 a0 (0 : Int32)) q_13 (Nat.le_of_ble_eq_true rfl) ⟨Nat.zero_le _, Nat.zero_le _⟩ dX5_takeClause_110 rfl rfl (Nat.le_of_ble_eq_true rfl)) rfl (fun v_12 h_11 => ?_)
        refine z_ifeq C 139 dX5_takeClause_113 rfl ?_ ?_
        · refine z_iconst (v := (0 : Int32)) C dX5_takeClause_139 rfl ?_
          exact z_zreturn C ⟨rfl, rfl⟩ dX5_takeClause_140
        · refine z_aload_n C 1 dX5_takeClause_116 rfl ?_
          refine z_iload_n C 2 dX5_takeClause_117 rfl ?_
          refine z_ifeq C 126 dX5_takeClause_118 rfl ?_ ?_
          · refine z_bipush (v := (23 : Int32)) C dX5_takeClause_126 rfl ?_
            exact z_lv _ [0] rfl (tX5_takeClause_128 C N _ v_7 a0 (23 : Int32))
          · refine z_bipush (v := (22 : Int32)) C dX5_takeClause_121 rfl ?_
            refine z_goto C 128 dX5_takeClause_123 rfl ?_
            exact z_lv _ [0] rfl (tX5_takeClause_128 C N _ v_7 a0 (22 : Int32))
    · refine z_iconst (v := (0 : Int32)) C dX5_takeClause_92 rfl ?_
      exact z_zreturn C ⟨rfl, rfl⟩ dX5_takeClause_93
def bX5_takeClause_66 (N : Nat) (h : AH) (a0 : Nat) (s0 : Int32) : Option (Int32 × AH) :=
  (if s0 = (0) then
  bX5_takeClause_79 N h a0 s0 a0 (2 : Nat)
  else
  bX5_takeClause_79 N h a0 s0 a0 (1 : Nat))
theorem tX5_takeClause_66 {X : zX} {g : zG} (C : zC X g yX5_takeClause cX5_takeClause 3 28 0 0 (some .boolean)) (N : Nat) (h : AH) (a0 : Nat) (s0 : Int32) : ZZ X g 3 (0, 0, 0, 0) (fun v : Int32 => some (.int v)) (bX5_takeClause_66 N h a0 s0) h 66 [(0, .ref a0)] [.int s0] := by
  unfold bX5_takeClause_66
  refine z_istore_n C dX5_takeClause_66 [(1, .int s0), (0, .ref a0)] (by decide) rfl ?_
  refine z_aload_n C 1 dX5_takeClause_67 rfl ?_
  refine z_iload_n C 0 dX5_takeClause_68 rfl ?_
  refine z_ifeq C 77 dX5_takeClause_69 rfl ?_ ?_
  · refine z_ldcS C 2 rfl dX5_takeClause_77 ?_
    exact z_lv _ [1, 0] rfl (tX5_takeClause_79 C N _ a0 s0 a0 (2 : Nat))
  · refine z_ldcS C 1 rfl dX5_takeClause_72 ?_
    refine z_goto C 79 dX5_takeClause_74 rfl ?_
    exact z_lv _ [1, 0] rfl (tX5_takeClause_79 C N _ a0 s0 a0 (1 : Nat))
def bX5_takeClause_30 (N : Nat) (h : AH) (a0 : Nat) (s0 : Int32) : Option (Int32 × AH) :=
  (if s0 = (0) then
  (zgI h a0 5 0).bind fun v_1 =>
  (zput h a0 5 0 (.int v_1)).bind fun h_2 =>
  zret .boolean s0 h_2
  else
  (zgI h a0 5 8).bind fun v_3 =>
  (zput h a0 5 0 (.int v_3)).bind fun h_4 =>
  zret .boolean s0 h_4)
theorem tX5_takeClause_30 {X : zX} {g : zG} (C : zC X g yX5_takeClause cX5_takeClause 3 28 0 0 (some .boolean)) (N : Nat) (h : AH) (a0 : Nat) (s0 : Int32) : ZZ X g 3 (0, 0, 0, 0) (fun v : Int32 => some (.int v)) (bX5_takeClause_30 N h a0 s0) h 30 [(0, .ref a0)] [.int s0] := by
  unfold bX5_takeClause_30
  refine z_istore_n C dX5_takeClause_30 [(1, .int s0), (0, .ref a0)] (by decide) rfl ?_
  refine z_aload_n C 1 dX5_takeClause_31 rfl ?_
  refine z_iload_n C 0 dX5_takeClause_32 rfl ?_
  refine z_ifeq C 43 dX5_takeClause_33 rfl ?_ ?_
  · refine z_aload_n C 1 dX5_takeClause_43 rfl ?_
    refine z_getI C qX5_11 dX5_takeClause_44 (fun v_1 => ?_)
    refine z_putI C pX5_11 dX5_takeClause_47 (fun h_2 => ?_)
    refine z_iload_n C 0 dX5_takeClause_50 rfl ?_
    exact z_zreturn C ⟨rfl, rfl⟩ dX5_takeClause_51
  · refine z_aload_n C 1 dX5_takeClause_36 rfl ?_
    refine z_getI C qX5_38 dX5_takeClause_37 (fun v_3 => ?_)
    refine z_goto C 47 dX5_takeClause_40 rfl ?_
    refine z_putI C pX5_11 dX5_takeClause_47 (fun h_4 => ?_)
    refine z_iload_n C 0 dX5_takeClause_50 rfl ?_
    exact z_zreturn C ⟨rfl, rfl⟩ dX5_takeClause_51
def bX5_takeClause_29 (N : Nat) (h : AH) (a0 : Nat) : Option (Int32 × AH) :=
  bX5_takeClause_30 N h a0 (0 : Int32)
theorem tX5_takeClause_29 {X : zX} {g : zG} (C : zC X g yX5_takeClause cX5_takeClause 3 28 0 0 (some .boolean)) (N : Nat) (h : AH) (a0 : Nat) : ZZ X g 3 (0, 0, 0, 0) (fun v : Int32 => some (.int v)) (bX5_takeClause_29 N h a0) h 29 [(0, .ref a0)] [] := by
  unfold bX5_takeClause_29
  refine z_iconst (v := (0 : Int32)) C dX5_takeClause_29 rfl ?_
  exact z_lv _ [0] rfl (tX5_takeClause_30 C N _ a0 (0 : Int32))
def fX5_takeClause (N : Nat) (h : AH) (a0 : Nat) : Option (Int32 × AH) :=
  (zis h a0 5).bind fun _ =>
  zcall (fX5_sign N h a0) fun v_2 h_1 =>
  (if v_2 = (104 : Int32) then
  (zis h_1 a0 5).bind fun _ =>
  zcall (fX5_takeWord N h_1 a0 (0 : Nat)) fun v_8 h_7 =>
  (if v_8 = (0) then
  bX5_takeClause_29 N h_7 a0
  else
  (zis h_7 a0 5).bind fun _ =>
  zcall (fX5_takeNumber N h_7 a0) fun v_11 h_10 =>
  (if v_11 = (0) then
  bX5_takeClause_29 N h_10 a0
  else
  bX5_takeClause_30 N h_10 a0 (1 : Int32)))
  else
  (zis h_1 a0 5).bind fun _ =>
  zcall (fX5_sign N h_1 a0) fun v_5 h_4 =>
  (if v_5 = (107 : Int32) then
  bX5_takeClause_66 N h_4 a0 (1 : Int32)
  else
  bX5_takeClause_66 N h_4 a0 (0 : Int32)))
theorem kX5_takeClause {l : Launch} {g : zG} (N : Nat) (h : AH) (a0 : Nat) : zM l g yX5_takeClause cX5_takeClause 3 (some .boolean) (28) 0 0 (fun v : Int32 => some (.int v)) (fX5_takeClause N h a0) h [.ref a0] := by
  refine zM.of (lv0 := [(0, .ref a0)]) (by decide) (Nat.le_of_ble_eq_true rfl) rfl (fun X hX C => ?_)
  subst hX
  unfold fX5_takeClause
  refine z_aload_n C 0 dX5_takeClause_0 rfl ?_
  refine z_bind (fun _ q_3 => ?_)
  refine z_calli (z_runV (As := []) (rest := []) C mX5_51 (kX5_sign N h a0) q_3 (Nat.le_of_ble_eq_true rfl) ⟨Nat.zero_le _, Nat.zero_le _⟩ dX5_takeClause_1 rfl rfl (Nat.le_of_ble_eq_true rfl)) rfl (fun v_2 h_1 => ?_)
  refine z_bipush (v := (104 : Int32)) C dX5_takeClause_4 rfl ?_
  refine z_icmpne C 52 dX5_takeClause_6 rfl ?_ ?_
  · refine z_aload_n C 0 dX5_takeClause_52 rfl ?_
    refine z_bind (fun _ q_6 => ?_)
    refine z_calli (z_runV (As := []) (rest := []) C mX5_51 (kX5_sign N h_1 a0) q_6 (Nat.le_of_ble_eq_true rfl) ⟨Nat.zero_le _, Nat.zero_le _⟩ dX5_takeClause_53 rfl rfl (Nat.le_of_ble_eq_true rfl)) rfl (fun v_5 h_4 => ?_)
    refine z_bipush (v := (107 : Int32)) C dX5_takeClause_56 rfl ?_
    refine z_icmpne C 65 dX5_takeClause_58 rfl ?_ ?_
    · refine z_iconst (v := (0 : Int32)) C dX5_takeClause_65 rfl ?_
      exact z_lv _ [0] rfl (tX5_takeClause_66 C N _ a0 (0 : Int32))
    · refine z_iconst (v := (1 : Int32)) C dX5_takeClause_61 rfl ?_
      refine z_goto C 66 dX5_takeClause_62 rfl ?_
      exact z_lv _ [0] rfl (tX5_takeClause_66 C N _ a0 (1 : Int32))
  · refine z_aload_n C 0 dX5_takeClause_9 rfl ?_
    refine z_ldcS C 0 rfl dX5_takeClause_10 ?_
    refine z_bind (fun _ q_9 => ?_)
    refine z_calli (z_runV (As := [.ref (g.2.2.1 (0 : Nat))]) (rest := []) C mX5_75 (kX5_takeWord N h_1 a0 (0 : Nat)) q_9 (Nat.le_of_ble_eq_true rfl) ⟨Nat.zero_le _, Nat.zero_le _⟩ dX5_takeClause_12 rfl rfl (Nat.le_of_ble_eq_true rfl)) rfl (fun v_8 h_7 => ?_)
    refine z_ifeq C 29 dX5_takeClause_15 rfl ?_ ?_
    · exact z_lv _ [0] rfl (tX5_takeClause_29 C N _ a0)
    · refine z_aload_n C 0 dX5_takeClause_18 rfl ?_
      refine z_bind (fun _ q_12 => ?_)
      refine z_calli (z_runV (As := []) (rest := []) C mX5_79 (kX5_takeNumber N h_7 a0) q_12 (Nat.le_of_ble_eq_true rfl) ⟨Nat.zero_le _, Nat.zero_le _⟩ dX5_takeClause_19 rfl rfl (Nat.le_of_ble_eq_true rfl)) rfl (fun v_11 h_10 => ?_)
      refine z_ifeq C 29 dX5_takeClause_22 rfl ?_ ?_
      · exact z_lv _ [0] rfl (tX5_takeClause_29 C N _ a0)
      · refine z_iconst (v := (1 : Int32)) C dX5_takeClause_25 rfl ?_
        refine z_goto C 30 dX5_takeClause_26 rfl ?_
        exact z_lv _ [0] rfl (tX5_takeClause_30 C N _ a0 (1 : Int32))
def bX5_learn_80 (N : Nat) (h : AH) (a0 : Nat) (x3 : Int32) : Option (Int32 × AH) :=
  (if x3 = (0) then
  (zgI h a0 5 7).bind fun v_1 =>
  some (v_1, h)
  else
  (zgI h a0 5 7).bind fun v_2 =>
  (zgI h a0 5 6).bind fun v_3 =>
  (if v_2 = v_3 then
  (zis h a0 5).bind fun _ =>
  zcall (fX5_settleFactTests N h a0) fun _ h_4 =>
  some ((-1 : Int32), h_4)
  else
  (zgI h a0 5 7).bind fun v_6 =>
  some (v_6, h)))
theorem tX5_learn_80 {X : zX} {g : zG} (C : zC X g yX5_learn cX5_learn 5 29 0 0 (some .int)) (N : Nat) (h : AH) (a0 : Nat) (x3 : Int32) : ZZ X g 5 (0, 0, 0, 0) (fun v : Int32 => some (.int v)) (bX5_learn_80 N h a0 x3) h 80 [(0, .ref a0), (3, .int x3)] [] := by
  unfold bX5_learn_80
  refine z_iload_n C 1 dX5_learn_80 rfl ?_
  refine z_ifeq C 95 dX5_learn_81 rfl ?_ ?_
  · refine z_aload_n C 0 dX5_learn_95 rfl ?_
    refine z_getI C qX5_35 dX5_learn_96 (fun v_1 => ?_)
    exact z_ireturn C ⟨rfl, rfl⟩ dX5_learn_99
  · refine z_aload_n C 0 dX5_learn_84 rfl ?_
    refine z_getI C qX5_35 dX5_learn_85 (fun v_2 => ?_)
    refine z_aload_n C 0 dX5_learn_88 rfl ?_
    refine z_getI C qX5_32 dX5_learn_89 (fun v_3 => ?_)
    refine z_icmpeq C 100 dX5_learn_92 rfl ?_ ?_
    · refine z_aload_n C 0 dX5_learn_100 rfl ?_
      refine z_bind (fun _ q_5 => ?_)
      refine z_callv (z_runV (As := []) (rest := []) C mX5_55 (kX5_settleFactTests N h a0) q_5 (Nat.le_of_ble_eq_true rfl) ⟨Nat.zero_le _, Nat.zero_le _⟩ dX5_learn_101 rfl rfl (Nat.le_of_ble_eq_true rfl)) rfl (fun _ h_4 => ?_)
      refine z_iconst (v := (-1 : Int32)) C dX5_learn_104 rfl ?_
      exact z_ireturn C ⟨rfl, rfl⟩ dX5_learn_105
    · refine z_aload_n C 0 dX5_learn_95 rfl ?_
      refine z_getI C qX5_35 dX5_learn_96 (fun v_6 => ?_)
      exact z_ireturn C ⟨rfl, rfl⟩ dX5_learn_99
def bX5_learn_39 (N : Nat) (r39 : AH → Nat → Int32 → Int32 → Option (Int32 × AH)) (h : AH) (a0 : Nat) (x3 : Int32) (x4 : Int32) : Option (Int32 × AH) :=
  (if (10 : Int32) ≤ x4 then
  bX5_learn_80 N h a0 x3
  else
  (if x3 = (0) then
  bX5_learn_80 N h a0 x3
  else
  (zis h a0 5).bind fun _ =>
  zcall (fX5_sign N h a0) fun v_2 h_1 =>
  (if v_2 = (59 : Int32) then
  (zgI h_1 a0 5 7).bind fun v_4 =>
  (zput h_1 a0 5 7 (.int (v_4 + (1 : Int32)))).bind fun h_5 =>
  (zis h_5 a0 5).bind fun _ =>
  zcall (fX5_takeClause N h_5 a0) fun v_7 h_6 =>
  r39 h_6 a0 v_7 (x4 + (1 : Int32))
  else
  bX5_learn_80 N h_1 a0 x3)))
theorem tX5_learn_39 {X : zX} {g : zG} (C : zC X g yX5_learn cX5_learn 5 29 0 0 (some .int)) (N : Nat) (n : Nat) : ∀ (h : AH) (a0 : Nat) (x3 : Int32) (x4 : Int32), ZZ X g 5 (0, 0, 0, 0) (fun v : Int32 => some (.int v)) (zfix (fun _ _ _ _ => none) (bX5_learn_39 N) n h a0 x3 x4) h 39 [(0, .ref a0), (3, .int x3), (4, .int x4)] [] := by
  induction n with
  | zero => intro h a0 x3 x4; exact z_none
  | succ n hr39 =>
    intro h a0 x3 x4
    show ZZ X g 5 (0, 0, 0, 0) _ (bX5_learn_39 N (zfix (fun _ _ _ _ => none) (bX5_learn_39 N) n) h a0 x3 x4) h 39 _ _
    unfold bX5_learn_39
    refine z_iload C 2 dX5_learn_39 rfl ?_
    refine z_bipush (v := (10 : Int32)) C dX5_learn_41 rfl ?_
    refine z_icmpge C 80 dX5_learn_43 rfl ?_ ?_
    · exact z_lv _ [0, 1] rfl (tX5_learn_80 C N _ a0 x3)
    · refine z_iload_n C 1 dX5_learn_46 rfl ?_
      refine z_ifeq C 80 dX5_learn_47 rfl ?_ ?_
      · exact z_lv _ [0, 1] rfl (tX5_learn_80 C N _ a0 x3)
      · refine z_aload_n C 0 dX5_learn_50 rfl ?_
        refine z_bind (fun _ q_3 => ?_)
        refine z_calli (z_runV (As := []) (rest := []) C mX5_51 (kX5_sign N h a0) q_3 (Nat.le_of_ble_eq_true rfl) ⟨Nat.zero_le _, Nat.zero_le _⟩ dX5_learn_51 rfl rfl (Nat.le_of_ble_eq_true rfl)) rfl (fun v_2 h_1 => ?_)
        refine z_bipush (v := (59 : Int32)) C dX5_learn_54 rfl ?_
        refine z_icmpne C 80 dX5_learn_56 rfl ?_ ?_
        · exact z_lv _ [0, 1] rfl (tX5_learn_80 C N _ a0 x3)
        · refine z_aload_n C 0 dX5_learn_59 rfl ?_
          refine z_dup C dX5_learn_60 rfl ?_
          refine z_getI C qX5_35 dX5_learn_61 (fun v_4 => ?_)
          refine z_iconst (v := (1 : Int32)) C dX5_learn_64 rfl ?_
          refine z_iadd C dX5_learn_65 ?_
          refine z_putI C pX5_35 dX5_learn_66 (fun h_5 => ?_)
          refine z_aload_n C 0 dX5_learn_69 rfl ?_
          refine z_bind (fun _ q_8 => ?_)
          refine z_calli (z_runV (As := []) (rest := []) C mX5_47 (kX5_takeClause N h_5 a0) q_8 (Nat.le_of_ble_eq_true rfl) ⟨Nat.zero_le _, Nat.zero_le _⟩ dX5_learn_70 rfl rfl (Nat.le_of_ble_eq_true rfl)) rfl (fun v_7 h_6 => ?_)
          refine z_istore_n C dX5_learn_73 [(3, .int v_7), (0, .ref a0), (4, .int x4)] (by decide) rfl ?_
          refine z_iinc (v := x4 + (1 : Int32)) C 2 dX5_learn_74 [(4, .int (x4 + (1 : Int32))), (3, .int v_7), (0, .ref a0)] rfl rfl (by decide) rfl ?_
          refine z_goto C 39 dX5_learn_77 rfl ?_
          exact z_lv _ [2, 1, 0] rfl (hr39 _ a0 v_7 (x4 + (1 : Int32)))
def fX5_learn (N : Nat) (h : AH) (a0 : Nat) (a1 : Nat) (x2 : Int32) : Option (Int32 × AH) :=
  (zput h a0 5 5 (.ref a1)).bind fun h_1 =>
  (zlen h_1 a1).bind fun v_2 =>
  (zput h_1 a0 5 6 (.int (if v_2 < x2 then v_2 else x2))).bind fun h_3 =>
  (zput h_3 a0 5 7 (.int (0 : Int32))).bind fun h_4 =>
  (zput h_4 a0 5 2 (.int (0 : Int32))).bind fun h_5 =>
  (zput h_5 a0 5 0 (.int (6 : Int32))).bind fun h_6 =>
  (zis h_6 a0 5).bind fun _ =>
  zcall (fX5_takeClause N h_6 a0) fun v_8 h_7 =>
  zfix (fun _ _ _ _ => none) (bX5_learn_39 N) N h_7 a0 v_8 (1 : Int32)
theorem kX5_learn {l : Launch} {g : zG} (N : Nat) (h : AH) (a0 : Nat) (a1 : Nat) (x2 : Int32) : zM l g yX5_learn cX5_learn 5 (some .int) (29) 0 0 (fun v : Int32 => some (.int v)) (fX5_learn N h a0 a1 x2) h [.ref a0, .ref a1, .int x2] := by
  refine zM.of (lv0 := [(0, .ref a0), (1, .ref a1), (2, .int x2)]) (by decide) (Nat.le_of_ble_eq_true rfl) rfl (fun X hX C => ?_)
  subst hX
  unfold fX5_learn
  refine z_aload_n C 0 dX5_learn_0 rfl ?_
  refine z_aload_n C 1 dX5_learn_1 rfl ?_
  refine z_put C pX5_28 rfl rfl dX5_learn_2 (fun h_1 => ?_)
  refine z_aload_n C 0 dX5_learn_5 rfl ?_
  refine z_iload_n C 2 dX5_learn_6 rfl ?_
  refine z_aload_n C 1 dX5_learn_7 rfl ?_
  refine z_alen C dX5_learn_8 (fun v_2 => ?_)
  refine z_mmin C mX5_41 dX5_learn_9 (Nat.le_of_ble_eq_true rfl) (by omega) ⟨Nat.zero_le _, Nat.zero_le _⟩ ?_
  refine z_putI C pX5_32 dX5_learn_12 (fun h_3 => ?_)
  refine z_aload_n C 0 dX5_learn_15 rfl ?_
  refine z_iconst (v := (0 : Int32)) C dX5_learn_16 rfl ?_
  refine z_putI C pX5_35 dX5_learn_17 (fun h_4 => ?_)
  refine z_aload_n C 0 dX5_learn_20 rfl ?_
  refine z_iconst (v := (0 : Int32)) C dX5_learn_21 rfl ?_
  refine z_putI C pX5_19 dX5_learn_22 (fun h_5 => ?_)
  refine z_aload_n C 0 dX5_learn_25 rfl ?_
  refine z_bipush (v := (6 : Int32)) C dX5_learn_26 rfl ?_
  refine z_putI C pX5_11 dX5_learn_28 (fun h_6 => ?_)
  refine z_aload_n C 0 dX5_learn_31 rfl ?_
  refine z_bind (fun _ q_9 => ?_)
  refine z_calli (z_runV (As := []) (rest := []) C mX5_47 (kX5_takeClause N h_6 a0) q_9 (Nat.le_of_ble_eq_true rfl) ⟨Nat.zero_le _, Nat.zero_le _⟩ dX5_learn_32 rfl rfl (Nat.le_of_ble_eq_true rfl)) rfl (fun v_8 h_7 => ?_)
  refine z_istore_n C dX5_learn_35 [(3, .int v_8), (0, .ref a0), (1, .ref a1), (2, .int x2)] (by decide) rfl ?_
  refine z_iconst (v := (1 : Int32)) C dX5_learn_36 rfl ?_
  refine z_istore C dX5_learn_37 [(4, .int (1 : Int32)), (3, .int v_8), (0, .ref a0), (1, .ref a1), (2, .int x2)] (by decide) rfl ?_
  exact z_lv _ [2, 1, 0] rfl (tX5_learn_39 C N N _ a0 v_8 (1 : Int32))
def fX11_house (N : Nat) (h : AH) (a0 : Nat) : Option (Int32 × AH) :=
  (zgI h a0 11 6).bind fun v_1 =>
  (if v_1 < (6 : Int32) then
  (zgR h a0 11 5).bind fun a_2 =>
  (zgI h a0 11 6).bind fun v_3 =>
  (zaald 4 h a_2 v_3).bind fun a_4 =>
  (zgR h a0 11 7).bind fun a_5 =>
  (zgI h a0 11 8).bind fun v_6 =>
  (zis h a_4 5).bind fun _ =>
  zcall (fX5_learn N h a_4 a_5 v_6) fun v_8 h_7 =>
  (zput h_7 a0 11 8 (.int (0 : Int32))).bind fun h_10 =>
  (if v_8 = (-1 : Int32) then
  (zgR h_10 a0 11 0).bind fun a_11 =>
  (zgI h_10 a0 11 6).bind fun v_12 =>
  (zput h_10 a_11 6 13 (.int v_12)).bind fun h_13 =>
  (zgI h_13 a0 11 6).bind fun v_14 =>
  (zput h_13 a0 11 6 (.int (v_14 + (1 : Int32)))).bind fun h_15 =>
  (zgR h_15 a0 11 0).bind fun a_16 =>
  (zgI h_15 a_16 6 13).bind fun v_17 =>
  some (v_17, h_15)
  else
  some ((-10 : Int32) - v_8, h_10))
  else
  some ((-4 : Int32), h))
theorem kX11_house {l : Launch} {g : zG} (N : Nat) (h : AH) (a0 : Nat) : zM l g yX11_house cX11_house 2 (some .int) (30) 0 0 (fun v : Int32 => some (.int v)) (fX11_house N h a0) h [.ref a0] := by
  refine zM.of (lv0 := [(0, .ref a0)]) (by decide) (Nat.le_of_ble_eq_true rfl) rfl (fun X hX C => ?_)
  subst hX
  unfold fX11_house
  refine z_aload_n C 0 dX11_house_0 rfl ?_
  refine z_getI C qX11_61 dX11_house_1 (fun v_1 => ?_)
  refine z_bipush (v := (6 : Int32)) C dX11_house_4 rfl ?_
  refine z_icmplt C 12 dX11_house_6 rfl ?_ ?_
  · refine z_aload_n C 0 dX11_house_12 rfl ?_
    refine z_getR C qX11_57 dX11_house_13 (fun a_2 => ?_)
    refine z_aload_n C 0 dX11_house_16 rfl ?_
    refine z_getI C qX11_61 dX11_house_17 (fun v_3 => ?_)
    refine z_aaload C (by decide) dX11_house_20 (fun a_4 => ?_)
    refine z_aload_n C 0 dX11_house_21 rfl ?_
    refine z_getR C qX11_65 dX11_house_22 (fun a_5 => ?_)
    refine z_aload_n C 0 dX11_house_25 rfl ?_
    refine z_getI C qX11_69 dX11_house_26 (fun v_6 => ?_)
    refine z_bind (fun _ q_9 => ?_)
    refine z_calli (z_runV (As := [.ref a_5, .int v_6]) (rest := []) C mX11_160 (kX5_learn N h a_4 a_5 v_6) q_9 (Nat.le_of_ble_eq_true rfl) ⟨Nat.zero_le _, Nat.zero_le _⟩ dX11_house_29 rfl rfl (Nat.le_of_ble_eq_true rfl)) rfl (fun v_8 h_7 => ?_)
    refine z_istore_n C dX11_house_32 [(1, .int v_8), (0, .ref a0)] (by decide) rfl ?_
    refine z_aload_n C 1 dX11_house_33 rfl ?_
    refine z_iconst (v := (0 : Int32)) C dX11_house_34 rfl ?_
    refine z_putI C pX11_69 dX11_house_35 (fun h_10 => ?_)
    refine z_iload_n C 0 dX11_house_38 rfl ?_
    refine z_iconst (v := (-1 : Int32)) C dX11_house_39 rfl ?_
    refine z_icmpeq C 48 dX11_house_40 rfl ?_ ?_
    · refine z_aload_n C 1 dX11_house_48 rfl ?_
      refine z_getR C qX11_12 dX11_house_49 (fun a_11 => ?_)
      refine z_aload_n C 1 dX11_house_52 rfl ?_
      refine z_getI C qX11_61 dX11_house_53 (fun v_12 => ?_)
      refine z_putI C pX11_164 dX11_house_56 (fun h_13 => ?_)
      refine z_aload_n C 1 dX11_house_59 rfl ?_
      refine z_dup C dX11_house_60 rfl ?_
      refine z_getI C qX11_61 dX11_house_61 (fun v_14 => ?_)
      refine z_iconst (v := (1 : Int32)) C dX11_house_64 rfl ?_
      refine z_iadd C dX11_house_65 ?_
      refine z_putI C pX11_61 dX11_house_66 (fun h_15 => ?_)
      refine z_aload_n C 1 dX11_house_69 rfl ?_
      refine z_getR C qX11_12 dX11_house_70 (fun a_16 => ?_)
      refine z_getI C qX11_164 dX11_house_73 (fun v_17 => ?_)
      exact z_ireturn C ⟨rfl, rfl⟩ dX11_house_76
    · refine z_bipush (v := (-10 : Int32)) C dX11_house_43 rfl ?_
      refine z_iload_n C 0 dX11_house_45 rfl ?_
      refine z_isub C dX11_house_46 ?_
      exact z_ireturn C ⟨rfl, rfl⟩ dX11_house_47
  · refine z_bipush (v := (-4 : Int32)) C dX11_house_9 rfl ?_
    exact z_ireturn C ⟨rfl, rfl⟩ dX11_house_11
