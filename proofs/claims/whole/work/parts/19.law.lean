/-- the law, whatever its name -/
abbrev yLn (nm : String) : MethodName := ⟨RL, nm, "([I)Z"⟩
/-- the script, as the law reads it -/
def zXs (X : zX) (g : zG) (b L : Nat) (xs : Nat → Int32) : Prop := match X with
  | (_, _, _, _, s, _, _, _, _, _) => va_X b L xs s s.heap ∧ b < s.heap.size ∧ ¬ zA g b
def zXe (L : Nat) (xs : Nat → Int32) (i : Int32) : Option Int32 := if ¬ (i < 0 ∨ L ≤ i.toNatClampNeg) then some (xs i.toNatClampNeg) else none
section
variable {X : zX} {g : zG} {y y' : MethodName} {cc cc' : ByteArray} {nL nL' lev lev' mc ms mc' ms' : Nat} {rt : Option FieldType} {u : Nat × Nat × Nat × Nat} {T : Type} {rv : T → Option Value} {F : Option (T × AH)} {Fc : Option (Unit × AH)} {h : AH} {pc pc' i : Nat} {lv : List (Nat × Value)} {st rest : List Value} {b L : Nat} {xs : Nat → Int32}
theorem z_sld (C : zC X g y cc nL lev mc ms rt) (hX : zXs X g b L xs) {j : Int32} {G : Int32 → Option (T × AH)} (d : zD cc pc .iaload 1 pc') (kk : ∀ v, ZZ X g nL u rv (G v) h pc' lv (.int v :: st)) : ZZ X g nL u rv ((zXe L xs j).bind G) h pc lv (.int j :: .ref b :: st) := by
  obtain ⟨p, l, e, R, s, m, args, below, meth, c⟩ := X
  obtain ⟨⟨hx, hb, hml, hown, hts⟩, hr, hlk, hnm, hS0, hRf, hRl, hRc, hRs, hzs⟩ := C
  obtain ⟨hd, rfl⟩ := d
  obtain ⟨h1, h2, h3⟩ := hX
  intro r h' E H locs ls hR hS hl
  obtain ⟨v, hv, E⟩ := Option.bind_eq_some_iff.mp E
  unfold zXe at hv
  split at hv
  · rename_i hin
    cases hv
    exact va_sld hx hb h1 h2 h3 hS hin hd (kk _ r h' E H locs ls hR hS hl)
  · cases hv
theorem z_slen (C : zC X g y cc nL lev mc ms rt) (hX : zXs X g b L xs) (d : zD cc pc .arraylength 1 pc') (kk : ZZ X g nL u rv F h pc' lv (.int (Int32.ofNat L) :: st)) : ZZ X g nL u rv F h pc lv (.ref b :: st) := by
  obtain ⟨p, l, e, R, s, m, args, below, meth, c⟩ := X
  obtain ⟨⟨hx, hb, hml, hown, hts⟩, hr, hlk, hnm, hS0, hRf, hRl, hRc, hRs, hzs⟩ := C
  obtain ⟨hd, rfl⟩ := d
  obtain ⟨h1, h2, h3⟩ := hX
  intro r h' E H locs ls hR hS hl
  exact va_slen hx hb h1 h2 h3 hS hd (kk r h' E H locs ls hR hS hl)
def zKJ (own : String) (i : Nat) (y' : MethodName) (cc' : ByteArray) (nL' : Nat) : Prop := Cond.methodLink own i y' ∈ tblG ∧ Cond.instanceMethod y' ∈ tblG ∧ Cond.initialized y'.cls ∈ tblG ∧ Cond.code y' cc' nL' none ∈ tblG ∧ nL' ≤ 80 ∧ y'.name = "<init>" ∧ zKd y' 0
theorem z_runI {b0 : Nat} (C : zC X g y cc nL lev mc ms rt) (kw : zKJ y.cls i y' cc' nL') (M : zM X.2.1 g y' cc' nL' none lev' mc' ms' (fun _ : Unit => none) Fc h [.ref b0]) (hlev : lev' + 1 ≤ lev) (hcs : u.1 + mc' ≤ mc ∧ u.2.1 + ms' ≤ ms) (d : zD cc pc (.invokespecial i) 3 pc') (hW : (rest.map fun v => v.category).sum ≤ 8) : zRun X g nL u mc' ms' (fun _ : Unit => none) Fc h pc lv (.ref b0 :: rest) rest := by
  obtain ⟨p, l, e, R, s, m, args, below, meth, c⟩ := X
  obtain ⟨⟨hx, hb, hml, hown, hts⟩, hr, hlk, hnm, hS0, hRf, hRl, hRc, hRs, hzs⟩ := C
  obtain ⟨hd, -⟩ := d
  obtain ⟨k1, k2, k3, k4, k5, k6, k7⟩ := kw
  intro r h' E H locs ls hR hS hl
  refine ⟨([Value.ref b0] : List Value).toArray, ?_⟩
  exact va_runI (Ts := tblG) (As := []) (rest := rest) ⟨hx, hb, hml, hown, hts⟩ (M r h' E) ⟨callB_of 0 hts (zGood k4) rfl rfl rfl (hts _ k3) (hts _ k1) k7 (z_room hRf hRl hlev k5), k6, hts _ k2⟩ (z_pre (p := p) (l := l) (e := e) hS0 hR hS) rfl rfl hl.1 rfl (lv_room hW) hd ⟨Nat.le_trans hcs.1 hRc, Nat.le_trans hcs.2 hRs⟩
end
theorem wLc : Cond.constantLong RL 153 4294967295 ∈ tblG := tblG_at 1432 (by decide +kernel) (by decide +kernel)
theorem jL_9 : zKJ RL 9 yX11_init cX11_init 2 := ⟨tblG_at 93 (by decide +kernel) (by decide +kernel), tblG_at 94 (by decide +kernel) (by decide +kernel), tblG_at 69 (by decide +kernel) (by decide +kernel), tblG_at 95 (by decide +kernel) (by decide +kernel), by decide, rfl, by decide, by decide, by decide +kernel⟩
theorem jL_12 : zKJ RL 12 yX12_init cX12_init 1 := ⟨tblG_at 1013 (by decide +kernel) (by decide +kernel), tblG_at 1014 (by decide +kernel) (by decide +kernel), tblG_at 81 (by decide +kernel) (by decide +kernel), tblG_at 1015 (by decide +kernel) (by decide +kernel), by decide, rfl, by decide, by decide, by decide +kernel⟩
def bL_law_452 (L : Nat) (xs : Nat → Int32) (N : Nat) (r18 : AH → Nat → Nat → Int32 → Option (Int32 × AH)) (h : AH) (a1 : Nat) (a2 : Nat) (x3 : Int32) (s0 : Nat) (s1 : Int32) (s2 : Int32) : Option (Int32 × AH) :=
  (zis h s0 11).bind fun _ =>
  zcall (fX11_out N h s0 s1 s2) fun v_2 h_1 =>
  (zXe L xs (x3 + (1 : Int32))).bind fun v_4 =>
  (zXe L xs (x3 + (2 : Int32))).bind fun v_5 =>
  (if v_5 = (0) then
  (zis h_1 a2 12).bind fun _ =>
  zcall (fX12_out N h_1 a2 v_4 (0 : Int32)) fun v_7 h_6 =>
  (if v_2 = v_7 then
  r18 h_6 a1 a2 (x3 + (6 : Int32))
  else
  zret .boolean (0 : Int32) h_6)
  else
  (zis h_1 a2 12).bind fun _ =>
  zcall (fX12_out N h_1 a2 v_4 (1 : Int32)) fun v_10 h_9 =>
  (if v_2 = v_10 then
  r18 h_9 a1 a2 (x3 + (6 : Int32))
  else
  zret .boolean (0 : Int32) h_9))
theorem tL_law_452 {X : zX} {g : zG} {nm : String} {b L : Nat} {xs : Nat → Int32} (hX : zXs X g b L xs) (C : zC X g (yLn nm) cL_law 4 34 145 3492 (some .boolean)) (N : Nat) {r18 : AH → Nat → Nat → Int32 → Option (Int32 × AH)} (hr18 : ∀ (h : AH) (a1 : Nat) (a2 : Nat) (x3 : Int32), ZZ X g 4 (145, 3492, 145, 3492) (fun v : Int32 => some (.int v)) (r18 h a1 a2 x3) h 18 [(0, .ref b), (1, .ref a1), (2, .ref a2), (3, .int x3)] []) (h : AH) (a1 : Nat) (a2 : Nat) (x3 : Int32) (s0 : Nat) (s1 : Int32) (s2 : Int32) : ZZ X g 4 (145, 3492, 145, 3492) (fun v : Int32 => some (.int v)) (bL_law_452 L xs N r18 h a1 a2 x3 s0 s1 s2) h 452 [(0, .ref b), (1, .ref a1), (2, .ref a2), (3, .int x3)] [.int s2, .int s1, .ref s0] := by
  unfold bL_law_452
  refine z_bind (fun _ q_3 => ?_)
  refine z_calli (z_runV (As := [.int s1, .int s2]) (rest := []) C mL_44 (kX11_out N h s0 s1 s2) q_3 (Nat.le_of_ble_eq_true rfl) ⟨Nat.le_of_ble_eq_true rfl, Nat.le_of_ble_eq_true rfl⟩ dL_law_452 rfl rfl (Nat.le_of_ble_eq_true rfl)) rfl (fun v_2 h_1 => ?_)
  refine z_aload_n C 2 dL_law_455 rfl ?_
  refine z_aload_n C 0 dL_law_456 rfl ?_
  refine z_iload_n C 3 dL_law_457 rfl ?_
  refine z_iconst (v := (1 : Int32)) C dL_law_458 rfl ?_
  refine z_iadd C dL_law_459 ?_
  refine z_sld C hX dL_law_460 (fun v_4 => ?_)
  refine z_aload_n C 0 dL_law_461 rfl ?_
  refine z_iload_n C 3 dL_law_462 rfl ?_
  refine z_iconst (v := (2 : Int32)) C dL_law_463 rfl ?_
  refine z_iadd C dL_law_464 ?_
  refine z_sld C hX dL_law_465 (fun v_5 => ?_)
  refine z_ifeq C 473 dL_law_466 rfl ?_ ?_
  · refine z_iconst (v := (0 : Int32)) C dL_law_473 rfl ?_
    refine z_bind (fun _ q_8 => ?_)
    refine z_calli (z_runV (As := [.int v_4, .int (0 : Int32)]) (rest := [.int v_2]) C mL_48 (kX12_out N h_1 a2 v_4 (0 : Int32)) q_8 (Nat.le_of_ble_eq_true rfl) ⟨Nat.le_of_ble_eq_true rfl, Nat.le_of_ble_eq_true rfl⟩ dL_law_474 rfl rfl (Nat.le_of_ble_eq_true rfl)) rfl (fun v_7 h_6 => ?_)
    refine z_icmpeq C 1395 dL_law_477 rfl ?_ ?_
    · refine z_iinc (v := x3 + (6 : Int32)) C 3 dL_law_1395 [(3, .int (x3 + (6 : Int32))), (0, .ref b), (1, .ref a1), (2, .ref a2)] rfl rfl (by decide) rfl ?_
      refine z_goto C 18 dL_law_1398 rfl ?_
      exact z_lv _ [1, 2, 3, 0] rfl (hr18 _ a1 a2 (x3 + (6 : Int32)))
    · refine z_iconst (v := (0 : Int32)) C dL_law_480 rfl ?_
      exact z_zreturn C ⟨rfl, rfl⟩ dL_law_481
  · refine z_iconst (v := (1 : Int32)) C dL_law_469 rfl ?_
    refine z_goto C 474 dL_law_470 rfl ?_
    refine z_bind (fun _ q_11 => ?_)
    refine z_calli (z_runV (As := [.int v_4, .int (1 : Int32)]) (rest := [.int v_2]) C mL_48 (kX12_out N h_1 a2 v_4 (1 : Int32)) q_11 (Nat.le_of_ble_eq_true rfl) ⟨Nat.le_of_ble_eq_true rfl, Nat.le_of_ble_eq_true rfl⟩ dL_law_474 rfl rfl (Nat.le_of_ble_eq_true rfl)) rfl (fun v_10 h_9 => ?_)
    refine z_icmpeq C 1395 dL_law_477 rfl ?_ ?_
    · refine z_iinc (v := x3 + (6 : Int32)) C 3 dL_law_1395 [(3, .int (x3 + (6 : Int32))), (0, .ref b), (1, .ref a1), (2, .ref a2)] rfl rfl (by decide) rfl ?_
      refine z_goto C 18 dL_law_1398 rfl ?_
      exact z_lv _ [1, 2, 3, 0] rfl (hr18 _ a1 a2 (x3 + (6 : Int32)))
    · refine z_iconst (v := (0 : Int32)) C dL_law_480 rfl ?_
      exact z_zreturn C ⟨rfl, rfl⟩ dL_law_481
def bL_law_692 (L : Nat) (xs : Nat → Int32) (N : Nat) (r18 : AH → Nat → Nat → Int32 → Option (Int32 × AH)) (h : AH) (a1 : Nat) (a2 : Nat) (x3 : Int32) (s0 : Nat) (s1 : Int32) (s2 : Int32) (s3 : Int32) (s4 : Int32) : Option (Int32 × AH) :=
  (zis h s0 11).bind fun _ =>
  zcall (fX11_see N h s0 s1 s2 s3 s4) fun v_2 h_1 =>
  (zXe L xs (x3 + (1 : Int32))).bind fun v_4 =>
  (zXe L xs (x3 + (2 : Int32))).bind fun v_5 =>
  (zXe L xs (x3 + (3 : Int32))).bind fun v_6 =>
  (zXe L xs (x3 + (4 : Int32))).bind fun v_7 =>
  (if v_7 = (0) then
  (zis h_1 a2 12).bind fun _ =>
  zcall (fX12_see N h_1 a2 v_4 v_5 v_6 (0 : Int32)) fun v_9 h_8 =>
  (if v_2 = v_9 then
  r18 h_8 a1 a2 (x3 + (6 : Int32))
  else
  zret .boolean (0 : Int32) h_8)
  else
  (zis h_1 a2 12).bind fun _ =>
  zcall (fX12_see N h_1 a2 v_4 v_5 v_6 (1 : Int32)) fun v_12 h_11 =>
  (if v_2 = v_12 then
  r18 h_11 a1 a2 (x3 + (6 : Int32))
  else
  zret .boolean (0 : Int32) h_11))
theorem tL_law_692 {X : zX} {g : zG} {nm : String} {b L : Nat} {xs : Nat → Int32} (hX : zXs X g b L xs) (C : zC X g (yLn nm) cL_law 4 34 145 3492 (some .boolean)) (N : Nat) {r18 : AH → Nat → Nat → Int32 → Option (Int32 × AH)} (hr18 : ∀ (h : AH) (a1 : Nat) (a2 : Nat) (x3 : Int32), ZZ X g 4 (145, 3492, 145, 3492) (fun v : Int32 => some (.int v)) (r18 h a1 a2 x3) h 18 [(0, .ref b), (1, .ref a1), (2, .ref a2), (3, .int x3)] []) (h : AH) (a1 : Nat) (a2 : Nat) (x3 : Int32) (s0 : Nat) (s1 : Int32) (s2 : Int32) (s3 : Int32) (s4 : Int32) : ZZ X g 4 (145, 3492, 145, 3492) (fun v : Int32 => some (.int v)) (bL_law_692 L xs N r18 h a1 a2 x3 s0 s1 s2 s3 s4) h 692 [(0, .ref b), (1, .ref a1), (2, .ref a2), (3, .int x3)] [.int s4, .int s3, .int s2, .int s1, .ref s0] := by
  unfold bL_law_692
  refine z_bind (fun _ q_3 => ?_)
  refine z_calli (z_runV (As := [.int s1, .int s2, .int s3, .int s4]) (rest := []) C mL_78 (kX11_see N h s0 s1 s2 s3 s4) q_3 (Nat.le_of_ble_eq_true rfl) ⟨Nat.le_of_ble_eq_true rfl, Nat.le_of_ble_eq_true rfl⟩ dL_law_692 rfl rfl (Nat.le_of_ble_eq_true rfl)) rfl (fun v_2 h_1 => ?_)
  refine z_aload_n C 2 dL_law_695 rfl ?_
  refine z_aload_n C 0 dL_law_696 rfl ?_
  refine z_iload_n C 3 dL_law_697 rfl ?_
  refine z_iconst (v := (1 : Int32)) C dL_law_698 rfl ?_
  refine z_iadd C dL_law_699 ?_
  refine z_sld C hX dL_law_700 (fun v_4 => ?_)
  refine z_aload_n C 0 dL_law_701 rfl ?_
  refine z_iload_n C 3 dL_law_702 rfl ?_
  refine z_iconst (v := (2 : Int32)) C dL_law_703 rfl ?_
  refine z_iadd C dL_law_704 ?_
  refine z_sld C hX dL_law_705 (fun v_5 => ?_)
  refine z_aload_n C 0 dL_law_706 rfl ?_
  refine z_iload_n C 3 dL_law_707 rfl ?_
  refine z_iconst (v := (3 : Int32)) C dL_law_708 rfl ?_
  refine z_iadd C dL_law_709 ?_
  refine z_sld C hX dL_law_710 (fun v_6 => ?_)
  refine z_aload_n C 0 dL_law_711 rfl ?_
  refine z_iload_n C 3 dL_law_712 rfl ?_
  refine z_iconst (v := (4 : Int32)) C dL_law_713 rfl ?_
  refine z_iadd C dL_law_714 ?_
  refine z_sld C hX dL_law_715 (fun v_7 => ?_)
  refine z_ifeq C 723 dL_law_716 rfl ?_ ?_
  · refine z_iconst (v := (0 : Int32)) C dL_law_723 rfl ?_
    refine z_bind (fun _ q_10 => ?_)
    refine z_calli (z_runV (As := [.int v_4, .int v_5, .int v_6, .int (0 : Int32)]) (rest := [.int v_2]) C mL_82 (kX12_see N h_1 a2 v_4 v_5 v_6 (0 : Int32)) q_10 (Nat.le_of_ble_eq_true rfl) ⟨Nat.le_of_ble_eq_true rfl, Nat.le_of_ble_eq_true rfl⟩ dL_law_724 rfl rfl (Nat.le_of_ble_eq_true rfl)) rfl (fun v_9 h_8 => ?_)
    refine z_icmpeq C 1395 dL_law_727 rfl ?_ ?_
    · refine z_iinc (v := x3 + (6 : Int32)) C 3 dL_law_1395 [(3, .int (x3 + (6 : Int32))), (0, .ref b), (1, .ref a1), (2, .ref a2)] rfl rfl (by decide) rfl ?_
      refine z_goto C 18 dL_law_1398 rfl ?_
      exact z_lv _ [1, 2, 3, 0] rfl (hr18 _ a1 a2 (x3 + (6 : Int32)))
    · refine z_iconst (v := (0 : Int32)) C dL_law_730 rfl ?_
      exact z_zreturn C ⟨rfl, rfl⟩ dL_law_731
  · refine z_iconst (v := (1 : Int32)) C dL_law_719 rfl ?_
    refine z_goto C 724 dL_law_720 rfl ?_
    refine z_bind (fun _ q_13 => ?_)
    refine z_calli (z_runV (As := [.int v_4, .int v_5, .int v_6, .int (1 : Int32)]) (rest := [.int v_2]) C mL_82 (kX12_see N h_1 a2 v_4 v_5 v_6 (1 : Int32)) q_13 (Nat.le_of_ble_eq_true rfl) ⟨Nat.le_of_ble_eq_true rfl, Nat.le_of_ble_eq_true rfl⟩ dL_law_724 rfl rfl (Nat.le_of_ble_eq_true rfl)) rfl (fun v_12 h_11 => ?_)
    refine z_icmpeq C 1395 dL_law_727 rfl ?_ ?_
    · refine z_iinc (v := x3 + (6 : Int32)) C 3 dL_law_1395 [(3, .int (x3 + (6 : Int32))), (0, .ref b), (1, .ref a1), (2, .ref a2)] rfl rfl (by decide) rfl ?_
      refine z_goto C 18 dL_law_1398 rfl ?_
      exact z_lv _ [1, 2, 3, 0] rfl (hr18 _ a1 a2 (x3 + (6 : Int32)))
    · refine z_iconst (v := (0 : Int32)) C dL_law_730 rfl ?_
      exact z_zreturn C ⟨rfl, rfl⟩ dL_law_731
def bL_law_18 (L : Nat) (xs : Nat → Int32) (N : Nat) (r18 : AH → Nat → Nat → Int32 → Option (Int32 × AH)) (h : AH) (a1 : Nat) (a2 : Nat) (x3 : Int32) : Option (Int32 × AH) :=
  (if ((Int32.ofNat L) - (6 : Int32)) < x3 then
  zret .boolean (1 : Int32) h
  else
  (zXe L xs x3).bind fun v_1 =>
  znm (v_1 &&& (63 : Int32)) fun y_2 =>
  (if y_2 = (0 : Int32) then
  (zXe L xs (x3 + (1 : Int32))).bind fun v_4 =>
  (zXe L xs (x3 + (2 : Int32))).bind fun v_5 =>
  (zis h a1 11).bind fun _ =>
  zcall (fX11_master N h a1 v_4 v_5) fun v_7 h_6 =>
  (zXe L xs (x3 + (1 : Int32))).bind fun v_9 =>
  (zXe L xs (x3 + (2 : Int32))).bind fun v_10 =>
  (zis h_6 a2 12).bind fun _ =>
  zcall (fX12_master N h_6 a2 v_9 v_10) fun v_12 h_11 =>
  (if v_7 = v_12 then
  r18 h_11 a1 a2 (x3 + (6 : Int32))
  else
  zret .boolean (0 : Int32) h_11)
  else if y_2 = (1 : Int32) then
  (zXe L xs (x3 + (1 : Int32))).bind fun v_15 =>
  (zXe L xs (x3 + (2 : Int32))).bind fun v_16 =>
  (zis h a1 11).bind fun _ =>
  zcall (fX11_of N h a1 v_15 v_16) fun v_18 h_17 =>
  (zXe L xs (x3 + (1 : Int32))).bind fun v_20 =>
  (zXe L xs (x3 + (2 : Int32))).bind fun v_21 =>
  (zis h_17 a2 12).bind fun _ =>
  zcall (fX12_of N h_17 a2 v_20 v_21) fun v_23 h_22 =>
  (if v_18 = v_23 then
  r18 h_22 a1 a2 (x3 + (6 : Int32))
  else
  zret .boolean (0 : Int32) h_22)
  else if y_2 = (2 : Int32) then
  (zXe L xs (x3 + (1 : Int32))).bind fun v_26 =>
  (zXe L xs (x3 + (2 : Int32))).bind fun v_27 =>
  (zXe L xs (x3 + (3 : Int32))).bind fun v_28 =>
  (zis h a1 11).bind fun _ =>
  zcall (fX11_grip N h a1 v_26 v_27 v_28) fun v_30 h_29 =>
  (zXe L xs (x3 + (1 : Int32))).bind fun v_32 =>
  (zXe L xs (x3 + (2 : Int32))).bind fun v_33 =>
  (zXe L xs (x3 + (3 : Int32))).bind fun v_34 =>
  (zis h_29 a2 12).bind fun _ =>
  zcall (fX12_grip N h_29 a2 v_32 v_33 v_34) fun v_36 h_35 =>
  (if v_30 = v_36 then
  r18 h_35 a1 a2 (x3 + (6 : Int32))
  else
  zret .boolean (0 : Int32) h_35)
  else if y_2 = (3 : Int32) then
  (zXe L xs (x3 + (1 : Int32))).bind fun v_39 =>
  (zXe L xs (x3 + (2 : Int32))).bind fun v_40 =>
  (zis h a1 11).bind fun _ =>
  zcall (fX11_tell N h a1 v_39 v_40) fun v_42 h_41 =>
  (zXe L xs (x3 + (1 : Int32))).bind fun v_44 =>
  (zXe L xs (x3 + (2 : Int32))).bind fun v_45 =>
  (zis h_41 a2 12).bind fun _ =>
  zcall (fX12_tell N h_41 a2 v_44 v_45) fun v_47 h_46 =>
  (if v_42 = v_47 then
  r18 h_46 a1 a2 (x3 + (6 : Int32))
  else
  zret .boolean (0 : Int32) h_46)
  else if y_2 = (4 : Int32) then
  (zXe L xs (x3 + (1 : Int32))).bind fun v_50 =>
  (zXe L xs (x3 + (2 : Int32))).bind fun v_51 =>
  (zis h a1 11).bind fun _ =>
  zcall (fX11_mind N h a1 v_50 v_51) fun v_53 h_52 =>
  (zXe L xs (x3 + (1 : Int32))).bind fun v_55 =>
  (zXe L xs (x3 + (2 : Int32))).bind fun v_56 =>
  (zis h_52 a2 12).bind fun _ =>
  zcall (fX12_mind N h_52 a2 v_55 v_56) fun v_58 h_57 =>
  (if v_53 = v_58 then
  r18 h_57 a1 a2 (x3 + (6 : Int32))
  else
  zret .boolean (0 : Int32) h_57)
  else if y_2 = (5 : Int32) then
  (zXe L xs (x3 + (1 : Int32))).bind fun v_61 =>
  (zXe L xs (x3 + (2 : Int32))).bind fun v_62 =>
  (zXe L xs (x3 + (3 : Int32))).bind fun v_63 =>
  (zis h a1 11).bind fun _ =>
  zcall (fX11_deed N h a1 v_61 v_62 v_63) fun v_65 h_64 =>
  (zXe L xs (x3 + (1 : Int32))).bind fun v_67 =>
  (zXe L xs (x3 + (2 : Int32))).bind fun v_68 =>
  (zXe L xs (x3 + (3 : Int32))).bind fun v_69 =>
  (zis h_64 a2 12).bind fun _ =>
  zcall (fX12_deed N h_64 a2 v_67 v_68 v_69) fun v_71 h_70 =>
  (if v_65 = v_71 then
  r18 h_70 a1 a2 (x3 + (6 : Int32))
  else
  zret .boolean (0 : Int32) h_70)
  else if y_2 = (6 : Int32) then
  (zXe L xs (x3 + (1 : Int32))).bind fun v_74 =>
  (zis h a1 11).bind fun _ =>
  zcall (fX11_footman N h a1 v_74) fun v_76 h_75 =>
  (zXe L xs (x3 + (1 : Int32))).bind fun v_78 =>
  (zis h_75 a2 12).bind fun _ =>
  zcall (fX12_footman N h_75 a2 v_78) fun v_80 h_79 =>
  (if v_76 = v_80 then
  r18 h_79 a1 a2 (x3 + (6 : Int32))
  else
  zret .boolean (0 : Int32) h_79)
  else if y_2 = (7 : Int32) then
  (zXe L xs (x3 + (1 : Int32))).bind fun v_83 =>
  (zXe L xs (x3 + (2 : Int32))).bind fun v_84 =>
  (if v_84 = (0) then
  bL_law_452 L xs N r18 h a1 a2 x3 a1 v_83 (0 : Int32)
  else
  bL_law_452 L xs N r18 h a1 a2 x3 a1 v_83 (1 : Int32))
  else if y_2 = (8 : Int32) then
  (zXe L xs (x3 + (1 : Int32))).bind fun v_86 =>
  (zis h a1 11).bind fun _ =>
  zcall (fX11_lost N h a1 v_86) fun v_88 h_87 =>
  (zXe L xs (x3 + (1 : Int32))).bind fun v_90 =>
  (zis h_87 a2 12).bind fun _ =>
  zcall (fX12_lost N h_87 a2 v_90) fun v_92 h_91 =>
  (if v_88 = v_92 then
  r18 h_91 a1 a2 (x3 + (6 : Int32))
  else
  zret .boolean (0 : Int32) h_91)
  else if y_2 = (9 : Int32) then
  (zXe L xs (x3 + (1 : Int32))).bind fun v_95 =>
  (zXe L xs (x3 + (2 : Int32))).bind fun v_96 =>
  (zXe L xs (x3 + (3 : Int32))).bind fun v_97 =>
  (zis h a1 11).bind fun _ =>
  zcall (fX11_row N h a1 v_95 v_96 v_97) fun v_99 h_98 =>
  (zXe L xs (x3 + (1 : Int32))).bind fun v_101 =>
  (zXe L xs (x3 + (2 : Int32))).bind fun v_102 =>
  (zXe L xs (x3 + (3 : Int32))).bind fun v_103 =>
  (zis h_98 a2 12).bind fun _ =>
  zcall (fX12_row N h_98 a2 v_101 v_102 v_103) fun v_105 h_104 =>
  (if v_99 = v_105 then
  r18 h_104 a1 a2 (x3 + (6 : Int32))
  else
  zret .boolean (0 : Int32) h_104)
  else if y_2 = (10 : Int32) then
  (zXe L xs (x3 + (1 : Int32))).bind fun v_108 =>
  (zis h a1 11).bind fun _ =>
  zcall (fX11_feed N h a1 v_108) fun v_110 h_109 =>
  (zXe L xs (x3 + (1 : Int32))).bind fun v_112 =>
  (zis h_109 a2 12).bind fun _ =>
  zcall (fX12_feed N h_109 a2 v_112) fun v_114 h_113 =>
  (if v_110 = v_114 then
  r18 h_113 a1 a2 (x3 + (6 : Int32))
  else
  zret .boolean (0 : Int32) h_113)
  else if y_2 = (11 : Int32) then
  (zis h a1 11).bind fun _ =>
  zcall (fX11_house N h a1) fun v_118 h_117 =>
  (zis h_117 a2 12).bind fun _ =>
  zcall (fX12_house N h_117 a2) fun v_121 h_120 =>
  (if v_118 = v_121 then
  r18 h_120 a1 a2 (x3 + (6 : Int32))
  else
  zret .boolean (0 : Int32) h_120)
  else if y_2 = (12 : Int32) then
  (zXe L xs (x3 + (1 : Int32))).bind fun v_124 =>
  (zis h a1 11).bind fun _ =>
  zcall (fX11_told N h a1 v_124) fun v_126 h_125 =>
  (zXe L xs (x3 + (1 : Int32))).bind fun v_128 =>
  (zis h_125 a2 12).bind fun _ =>
  zcall (fX12_told N h_125 a2 v_128) fun v_130 h_129 =>
  (if v_126 = v_130 then
  r18 h_129 a1 a2 (x3 + (6 : Int32))
  else
  zret .boolean (0 : Int32) h_129)
  else if y_2 = (13 : Int32) then
  (zXe L xs (x3 + (1 : Int32))).bind fun v_133 =>
  (zis h a1 11).bind fun _ =>
  zcall (fX11_pass N h a1 v_133) fun v_135 h_134 =>
  (zXe L xs (x3 + (1 : Int32))).bind fun v_137 =>
  (zis h_134 a2 12).bind fun _ =>
  zcall (fX12_pass N h_134 a2 v_137) fun v_139 h_138 =>
  (if v_135 = v_139 then
  r18 h_138 a1 a2 (x3 + (6 : Int32))
  else
  zret .boolean (0 : Int32) h_138)
  else if y_2 = (14 : Int32) then
  (zXe L xs (x3 + (1 : Int32))).bind fun v_142 =>
  (zXe L xs (x3 + (2 : Int32))).bind fun v_143 =>
  (zis h a1 11).bind fun _ =>
  zcall (fX11_on N h a1 v_142 v_143) fun v_145 h_144 =>
  (zXe L xs (x3 + (1 : Int32))).bind fun v_147 =>
  (zXe L xs (x3 + (2 : Int32))).bind fun v_148 =>
  (zis h_144 a2 12).bind fun _ =>
  zcall (fX12_on N h_144 a2 v_147 v_148) fun v_150 h_149 =>
  (if v_145 = v_150 then
  r18 h_149 a1 a2 (x3 + (6 : Int32))
  else
  zret .boolean (0 : Int32) h_149)
  else if y_2 = (15 : Int32) then
  (zXe L xs (x3 + (1 : Int32))).bind fun v_153 =>
  (zXe L xs (x3 + (2 : Int32))).bind fun v_154 =>
  (zXe L xs (x3 + (3 : Int32))).bind fun v_155 =>
  (zXe L xs (x3 + (4 : Int32))).bind fun v_156 =>
  (if v_156 = (0) then
  bL_law_692 L xs N r18 h a1 a2 x3 a1 v_153 v_154 v_155 (0 : Int32)
  else
  bL_law_692 L xs N r18 h a1 a2 x3 a1 v_153 v_154 v_155 (1 : Int32))
  else if y_2 = (16 : Int32) then
  (zis h a1 11).bind fun _ =>
  zcall (fX11_wrong N h a1) fun v_159 h_158 =>
  (zis h_158 a2 12).bind fun _ =>
  zcall (fX12_wrong N h_158 a2) fun v_162 h_161 =>
  (if v_159 = v_162 then
  r18 h_161 a1 a2 (x3 + (6 : Int32))
  else
  zret .boolean (0 : Int32) h_161)
  else if y_2 = (17 : Int32) then
  (zXe L xs (x3 + (1 : Int32))).bind fun v_165 =>
  (zXe L xs (x3 + (2 : Int32))).bind fun v_166 =>
  (zis h a1 11).bind fun _ =>
  zcall (fX11_can N h a1 v_165 v_166) fun v_168 h_167 =>
  (zXe L xs (x3 + (1 : Int32))).bind fun v_170 =>
  (zXe L xs (x3 + (2 : Int32))).bind fun v_171 =>
  (zis h_167 a2 12).bind fun _ =>
  zcall (fX12_can N h_167 a2 v_170 v_171) fun v_173 h_172 =>
  (if v_168 = v_173 then
  r18 h_172 a1 a2 (x3 + (6 : Int32))
  else
  zret .boolean (0 : Int32) h_172)
  else if y_2 = (18 : Int32) then
  (zXe L xs (x3 + (1 : Int32))).bind fun v_176 =>
  (zXe L xs (x3 + (2 : Int32))).bind fun v_177 =>
  (zXe L xs (x3 + (3 : Int32))).bind fun v_178 =>
  (zXe L xs (x3 + (4 : Int32))).bind fun v_179 =>
  (zis h a1 11).bind fun _ =>
  zcall (fX11_knew N h a1 v_176 v_177 v_178 v_179) fun v_181 h_180 =>
  (zXe L xs (x3 + (1 : Int32))).bind fun v_183 =>
  (zXe L xs (x3 + (2 : Int32))).bind fun v_184 =>
  (zXe L xs (x3 + (3 : Int32))).bind fun v_185 =>
  (zXe L xs (x3 + (4 : Int32))).bind fun v_186 =>
  (zis h_180 a2 12).bind fun _ =>
  zcall (fX12_knew N h_180 a2 v_183 v_184 v_185 v_186) fun v_188 h_187 =>
  (if v_181 = v_188 then
  r18 h_187 a1 a2 (x3 + (6 : Int32))
  else
  zret .boolean (0 : Int32) h_187)
  else if y_2 = (19 : Int32) then
  (zXe L xs (x3 + (1 : Int32))).bind fun v_191 =>
  (zXe L xs (x3 + (2 : Int32))).bind fun v_192 =>
  (zis h a1 11).bind fun _ =>
  zcall (fX11_odds N h a1 v_191 v_192) fun v_194 h_193 =>
  (zXe L xs (x3 + (1 : Int32))).bind fun v_196 =>
  (zXe L xs (x3 + (2 : Int32))).bind fun v_197 =>
  (zis h_193 a2 12).bind fun _ =>
  zcall (fX12_odds N h_193 a2 v_196 v_197) fun v_199 h_198 =>
  (if (lg_cmp v_194 v_199) = (0) then
  r18 h_198 a1 a2 (x3 + (6 : Int32))
  else
  zret .boolean (0 : Int32) h_198)
  else if y_2 = (20 : Int32) then
  (zXe L xs (x3 + (1 : Int32))).bind fun v_202 =>
  (zXe L xs (x3 + (2 : Int32))).bind fun v_203 =>
  (zis h a1 11).bind fun _ =>
  zcall (fX11_mean N h a1 v_202 v_203) fun v_205 h_204 =>
  (zXe L xs (x3 + (1 : Int32))).bind fun v_207 =>
  (zXe L xs (x3 + (2 : Int32))).bind fun v_208 =>
  (zis h_204 a2 12).bind fun _ =>
  zcall (fX12_mean N h_204 a2 v_207 v_208) fun v_210 h_209 =>
  (if (lg_cmp v_205 v_210) = (0) then
  r18 h_209 a1 a2 (x3 + (6 : Int32))
  else
  zret .boolean (0 : Int32) h_209)
  else if y_2 = (21 : Int32) then
  (zXe L xs (x3 + (1 : Int32))).bind fun v_213 =>
  (zXe L xs (x3 + (2 : Int32))).bind fun v_214 =>
  (zis h a1 11).bind fun _ =>
  zcall (fX11_plan N h a1 v_213 v_214) fun v_216 h_215 =>
  (zXe L xs (x3 + (1 : Int32))).bind fun v_218 =>
  (zXe L xs (x3 + (2 : Int32))).bind fun v_219 =>
  (zis h_215 a2 12).bind fun _ =>
  zcall (fX12_plan N h_215 a2 v_218 v_219) fun v_221 h_220 =>
  (if v_216 = v_221 then
  r18 h_220 a1 a2 (x3 + (6 : Int32))
  else
  zret .boolean (0 : Int32) h_220)
  else if y_2 = (22 : Int32) then
  (zXe L xs (x3 + (1 : Int32))).bind fun v_224 =>
  (zis h a1 11).bind fun _ =>
  zcall (fX11_ends N h a1 v_224) fun v_226 h_225 =>
  (zXe L xs (x3 + (1 : Int32))).bind fun v_228 =>
  (zis h_225 a2 12).bind fun _ =>
  zcall (fX12_ends N h_225 a2 v_228) fun v_230 h_229 =>
  (if v_226 = v_230 then
  r18 h_229 a1 a2 (x3 + (6 : Int32))
  else
  zret .boolean (0 : Int32) h_229)
  else if y_2 = (23 : Int32) then
  (zXe L xs (x3 + (1 : Int32))).bind fun v_233 =>
  (zXe L xs (x3 + (2 : Int32))).bind fun v_234 =>
  (zis h a1 11).bind fun _ =>
  zcall (fX11_book N h a1 v_233 v_234) fun v_236 h_235 =>
  (zXe L xs (x3 + (1 : Int32))).bind fun v_238 =>
  (zXe L xs (x3 + (2 : Int32))).bind fun v_239 =>
  (zis h_235 a2 12).bind fun _ =>
  zcall (fX12_book N h_235 a2 v_238 v_239) fun v_241 h_240 =>
  (if v_236 = v_241 then
  r18 h_240 a1 a2 (x3 + (6 : Int32))
  else
  zret .boolean (0 : Int32) h_240)
  else if y_2 = (24 : Int32) then
  (zis h a1 11).bind fun _ =>
  zcall (fX11_looked N h a1) fun v_245 h_244 =>
  (zis h_244 a2 12).bind fun _ =>
  zcall (fX12_looked N h_244 a2) fun v_248 h_247 =>
  (if v_245 = v_248 then
  r18 h_247 a1 a2 (x3 + (6 : Int32))
  else
  zret .boolean (0 : Int32) h_247)
  else if y_2 = (25 : Int32) then
  (zXe L xs (x3 + (1 : Int32))).bind fun v_251 =>
  (zXe L xs (x3 + (2 : Int32))).bind fun v_252 =>
  (zis h a1 11).bind fun _ =>
  zcall (fX11_judge N h a1 v_251 v_252) fun v_254 h_253 =>
  (zXe L xs (x3 + (1 : Int32))).bind fun v_256 =>
  (zXe L xs (x3 + (2 : Int32))).bind fun v_257 =>
  (zis h_253 a2 12).bind fun _ =>
  zcall (fX12_judge N h_253 a2 v_256 v_257) fun v_259 h_258 =>
  (if v_254 = v_259 then
  r18 h_258 a1 a2 (x3 + (6 : Int32))
  else
  zret .boolean (0 : Int32) h_258)
  else if y_2 = (26 : Int32) then
  (zis h a1 11).bind fun _ =>
  zcall (fX11_image N h a1) fun v_263 h_262 =>
  (zis h_262 a2 12).bind fun _ =>
  zcall (fX12_image N h_262 a2) fun v_266 h_265 =>
  (if v_263 = v_266 then
  r18 h_265 a1 a2 (x3 + (6 : Int32))
  else
  zret .boolean (0 : Int32) h_265)
  else if y_2 = (27 : Int32) then
  (zis h a1 11).bind fun _ =>
  zcall (fX11_undo N h a1) fun v_270 h_269 =>
  (zis h_269 a2 12).bind fun _ =>
  zcall (fX12_undo N h_269 a2) fun v_273 h_272 =>
  (if v_270 = v_273 then
  r18 h_272 a1 a2 (x3 + (6 : Int32))
  else
  zret .boolean (0 : Int32) h_272)
  else if y_2 = (28 : Int32) then
  (zXe L xs (x3 + (1 : Int32))).bind fun v_276 =>
  (zXe L xs (x3 + (2 : Int32))).bind fun v_277 =>
  (zXe L xs (x3 + (3 : Int32))).bind fun v_278 =>
  (zis h a1 11).bind fun _ =>
  zcall (fX11_act N h a1 v_276 v_277 v_278) fun v_280 h_279 =>
  (zXe L xs (x3 + (1 : Int32))).bind fun v_282 =>
  (zXe L xs (x3 + (2 : Int32))).bind fun v_283 =>
  (zXe L xs (x3 + (3 : Int32))).bind fun v_284 =>
  (zis h_279 a2 12).bind fun _ =>
  zcall (fX12_act N h_279 a2 v_282 v_283 v_284) fun v_286 h_285 =>
  (if v_280 = v_286 then
  r18 h_285 a1 a2 (x3 + (6 : Int32))
  else
  zret .boolean (0 : Int32) h_285)
  else if y_2 = (29 : Int32) then
  (zXe L xs (x3 + (1 : Int32))).bind fun v_289 =>
  (zis h a1 11).bind fun _ =>
  zcall (fX11_trace N h a1 v_289) fun v_291 h_290 =>
  (zXe L xs (x3 + (1 : Int32))).bind fun v_293 =>
  (zis h_290 a2 12).bind fun _ =>
  zcall (fX12_trace N h_290 a2 v_293) fun v_295 h_294 =>
  (if v_291 = v_295 then
  r18 h_294 a1 a2 (x3 + (6 : Int32))
  else
  zret .boolean (0 : Int32) h_294)
  else if y_2 = (30 : Int32) then
  (zXe L xs (x3 + (1 : Int32))).bind fun v_298 =>
  (zXe L xs (x3 + (2 : Int32))).bind fun v_299 =>
  (zis h a1 11).bind fun _ =>
  zcall (fX11_taken N h a1 v_298 v_299) fun v_301 h_300 =>
  (zXe L xs (x3 + (1 : Int32))).bind fun v_303 =>
  (zXe L xs (x3 + (2 : Int32))).bind fun v_304 =>
  (zis h_300 a2 12).bind fun _ =>
  zcall (fX12_taken N h_300 a2 v_303 v_304) fun v_306 h_305 =>
  (if v_301 = v_306 then
  r18 h_305 a1 a2 (x3 + (6 : Int32))
  else
  zret .boolean (0 : Int32) h_305)
  else if y_2 = (31 : Int32) then
  (zXe L xs (x3 + (1 : Int32))).bind fun v_309 =>
  (zis h a1 11).bind fun _ =>
  zcall (fX11_count N h a1 v_309) fun v_311 h_310 =>
  (zXe L xs (x3 + (1 : Int32))).bind fun v_313 =>
  (zis h_310 a2 12).bind fun _ =>
  zcall (fX12_count N h_310 a2 v_313) fun v_315 h_314 =>
  (if v_311 = v_315 then
  r18 h_314 a1 a2 (x3 + (6 : Int32))
  else
  zret .boolean (0 : Int32) h_314)
  else if y_2 = (32 : Int32) then
  (zXe L xs (x3 + (1 : Int32))).bind fun v_318 =>
  (zXe L xs (x3 + (2 : Int32))).bind fun v_319 =>
  (zXe L xs (x3 + (3 : Int32))).bind fun v_320 =>
  (zis h a1 11).bind fun _ =>
  zcall (fX11_tape N h a1 v_318 v_319 v_320) fun v_322 h_321 =>
  (zXe L xs (x3 + (1 : Int32))).bind fun v_324 =>
  (zXe L xs (x3 + (2 : Int32))).bind fun v_325 =>
  (zXe L xs (x3 + (3 : Int32))).bind fun v_326 =>
  (zis h_321 a2 12).bind fun _ =>
  zcall (fX12_tape N h_321 a2 v_324 v_325 v_326) fun v_328 h_327 =>
  (if v_322 = v_328 then
  r18 h_327 a1 a2 (x3 + (6 : Int32))
  else
  zret .boolean (0 : Int32) h_327)
  else if y_2 = (33 : Int32) then
  (zXe L xs (x3 + (1 : Int32))).bind fun v_331 =>
  (zXe L xs (x3 + (2 : Int32))).bind fun v_332 =>
  (zXe L xs (x3 + (3 : Int32))).bind fun v_333 =>
  (zXe L xs (x3 + (4 : Int32))).bind fun v_334 =>
  (zis h a1 11).bind fun _ =>
  zcall (fX11_item N h a1 v_331 v_332 (((v_333.toInt64) <<< ((32 : Int32).toInt64 &&& 63)) ||| ((v_334.toInt64) &&& (4294967295 : Int64)))) fun v_336 h_335 =>
  (zXe L xs (x3 + (1 : Int32))).bind fun v_338 =>
  (zXe L xs (x3 + (2 : Int32))).bind fun v_339 =>
  (zXe L xs (x3 + (3 : Int32))).bind fun v_340 =>
  (zXe L xs (x3 + (4 : Int32))).bind fun v_341 =>
  (zis h_335 a2 12).bind fun _ =>
  zcall (fX12_item N h_335 a2 v_338 v_339 (((v_340.toInt64) <<< ((32 : Int32).toInt64 &&& 63)) ||| ((v_341.toInt64) &&& (4294967295 : Int64)))) fun v_343 h_342 =>
  (if v_336 = v_343 then
  r18 h_342 a1 a2 (x3 + (6 : Int32))
  else
  zret .boolean (0 : Int32) h_342)
  else if y_2 = (34 : Int32) then
  (zXe L xs (x3 + (1 : Int32))).bind fun v_346 =>
  (zXe L xs (x3 + (2 : Int32))).bind fun v_347 =>
  (zis h a1 11).bind fun _ =>
  zcall (fX11_read N h a1 v_346 v_347) fun v_349 h_348 =>
  (zXe L xs (x3 + (1 : Int32))).bind fun v_351 =>
  (zXe L xs (x3 + (2 : Int32))).bind fun v_352 =>
  (zis h_348 a2 12).bind fun _ =>
  zcall (fX12_read N h_348 a2 v_351 v_352) fun v_354 h_353 =>
  (if (lg_cmp v_349 v_354) = (0) then
  r18 h_353 a1 a2 (x3 + (6 : Int32))
  else
  zret .boolean (0 : Int32) h_353)
  else if y_2 = (35 : Int32) then
  (zXe L xs (x3 + (1 : Int32))).bind fun v_357 =>
  (zXe L xs (x3 + (2 : Int32))).bind fun v_358 =>
  (zXe L xs (x3 + (3 : Int32))).bind fun v_359 =>
  (zXe L xs (x3 + (4 : Int32))).bind fun v_360 =>
  (zXe L xs (x3 + (5 : Int32))).bind fun v_361 =>
  (zis h a1 11).bind fun _ =>
  zcall (fX11_shift N h a1 v_357 v_358 v_359 v_360 v_361) fun v_363 h_362 =>
  (zXe L xs (x3 + (1 : Int32))).bind fun v_365 =>
  (zXe L xs (x3 + (2 : Int32))).bind fun v_366 =>
  (zXe L xs (x3 + (3 : Int32))).bind fun v_367 =>
  (zXe L xs (x3 + (4 : Int32))).bind fun v_368 =>
  (zXe L xs (x3 + (5 : Int32))).bind fun v_369 =>
  (zis h_362 a2 12).bind fun _ =>
  zcall (fX12_shift N h_362 a2 v_365 v_366 v_367 v_368 v_369) fun v_371 h_370 =>
  (if v_363 = v_371 then
  r18 h_370 a1 a2 (x3 + (6 : Int32))
  else
  zret .boolean (0 : Int32) h_370)
  else 
  r18 h a1 a2 (x3 + (6 : Int32))))
theorem tL_law_18 {X : zX} {g : zG} {nm : String} {b L : Nat} {xs : Nat → Int32} (hX : zXs X g b L xs) (C : zC X g (yLn nm) cL_law 4 34 145 3492 (some .boolean)) (N : Nat) (n : Nat) : ∀ (h : AH) (a1 : Nat) (a2 : Nat) (x3 : Int32), ZZ X g 4 (145, 3492, 145, 3492) (fun v : Int32 => some (.int v)) (zfix (fun _ _ _ _ => none) (bL_law_18 L xs N) n h a1 a2 x3) h 18 [(0, .ref b), (1, .ref a1), (2, .ref a2), (3, .int x3)] [] := by
  induction n with
  | zero => intro h a1 a2 x3; exact z_none
  | succ n hr18 =>
    intro h a1 a2 x3
    show ZZ X g 4 (145, 3492, 145, 3492) _ (bL_law_18 L xs N (zfix (fun _ _ _ _ => none) (bL_law_18 L xs N) n) h a1 a2 x3) h 18 _ _
    unfold bL_law_18
    refine z_iload_n C 3 dL_law_18 rfl ?_
    refine z_aload_n C 0 dL_law_19 rfl ?_
    refine z_slen C hX dL_law_20 ?_
    refine z_bipush (v := (6 : Int32)) C dL_law_21 rfl ?_
    refine z_isub C dL_law_23 ?_
    refine z_icmpgt C 1401 dL_law_24 rfl ?_ ?_
    · refine z_iconst (v := (1 : Int32)) C dL_law_1401 rfl ?_
      exact z_zreturn C ⟨rfl, rfl⟩ dL_law_1402
    · refine z_aload_n C 0 dL_law_27 rfl ?_
      refine z_iload_n C 3 dL_law_28 rfl ?_
      refine z_sld C hX dL_law_29 (fun v_1 => ?_)
      refine z_bipush (v := (63 : Int32)) C dL_law_30 rfl ?_
      refine z_iand C dL_law_32 ?_
      refine z_nmI (fun y_2 => ?_)
      refine z_ite (fun q_3 => ?_) (fun q_3 => ?_)
      · subst q_3
        refine z_table C 192 dL_law_33 (by decide) (by decide) rfl rfl ?_
        refine z_aload_n C 1 dL_law_192 rfl ?_
        refine z_aload_n C 0 dL_law_193 rfl ?_
        refine z_iload_n C 3 dL_law_194 rfl ?_
        refine z_iconst (v := (1 : Int32)) C dL_law_195 rfl ?_
        refine z_iadd C dL_law_196 ?_
        refine z_sld C hX dL_law_197 (fun v_4 => ?_)
        refine z_aload_n C 0 dL_law_198 rfl ?_
        refine z_iload_n C 3 dL_law_199 rfl ?_
        refine z_iconst (v := (2 : Int32)) C dL_law_200 rfl ?_
        refine z_iadd C dL_law_201 ?_
        refine z_sld C hX dL_law_202 (fun v_5 => ?_)
        refine z_bind (fun _ q_8 => ?_)
        refine z_calli (z_runV (As := [.int v_4, .int v_5]) (rest := []) C mL_13 (kX11_master N h a1 v_4 v_5) q_8 (Nat.le_of_ble_eq_true rfl) ⟨Nat.le_of_ble_eq_true rfl, Nat.le_of_ble_eq_true rfl⟩ dL_law_203 rfl rfl (Nat.le_of_ble_eq_true rfl)) rfl (fun v_7 h_6 => ?_)
        refine z_aload_n C 2 dL_law_206 rfl ?_
        refine z_aload_n C 0 dL_law_207 rfl ?_
        refine z_iload_n C 3 dL_law_208 rfl ?_
        refine z_iconst (v := (1 : Int32)) C dL_law_209 rfl ?_
        refine z_iadd C dL_law_210 ?_
        refine z_sld C hX dL_law_211 (fun v_9 => ?_)
        refine z_aload_n C 0 dL_law_212 rfl ?_
        refine z_iload_n C 3 dL_law_213 rfl ?_
        refine z_iconst (v := (2 : Int32)) C dL_law_214 rfl ?_
        refine z_iadd C dL_law_215 ?_
        refine z_sld C hX dL_law_216 (fun v_10 => ?_)
        refine z_bind (fun _ q_13 => ?_)
        refine z_calli (z_runV (As := [.int v_9, .int v_10]) (rest := [.int v_7]) C mL_17 (kX12_master N h_6 a2 v_9 v_10) q_13 (Nat.le_of_ble_eq_true rfl) ⟨Nat.le_of_ble_eq_true rfl, Nat.le_of_ble_eq_true rfl⟩ dL_law_217 rfl rfl (Nat.le_of_ble_eq_true rfl)) rfl (fun v_12 h_11 => ?_)
        refine z_icmpeq C 1395 dL_law_220 rfl ?_ ?_
        · refine z_iinc (v := x3 + (6 : Int32)) C 3 dL_law_1395 [(3, .int (x3 + (6 : Int32))), (0, .ref b), (1, .ref a1), (2, .ref a2)] rfl rfl (by decide) rfl ?_
          refine z_goto C 18 dL_law_1398 rfl ?_
          exact z_lv _ [1, 2, 3, 0] rfl (hr18 _ a1 a2 (x3 + (6 : Int32)))
        · refine z_iconst (v := (0 : Int32)) C dL_law_223 rfl ?_
          exact z_zreturn C ⟨rfl, rfl⟩ dL_law_224
      refine z_ite (fun q_14 => ?_) (fun q_14 => ?_)
      · subst q_14
        refine z_table C 225 dL_law_33 (by decide) (by decide) rfl rfl ?_
        refine z_aload_n C 1 dL_law_225 rfl ?_
        refine z_aload_n C 0 dL_law_226 rfl ?_
        refine z_iload_n C 3 dL_law_227 rfl ?_
        refine z_iconst (v := (1 : Int32)) C dL_law_228 rfl ?_
        refine z_iadd C dL_law_229 ?_
        refine z_sld C hX dL_law_230 (fun v_15 => ?_)
        refine z_aload_n C 0 dL_law_231 rfl ?_
        refine z_iload_n C 3 dL_law_232 rfl ?_
        refine z_iconst (v := (2 : Int32)) C dL_law_233 rfl ?_
        refine z_iadd C dL_law_234 ?_
        refine z_sld C hX dL_law_235 (fun v_16 => ?_)
        refine z_bind (fun _ q_19 => ?_)
        refine z_calli (z_runV (As := [.int v_15, .int v_16]) (rest := []) C mL_18 (kX11_of N h a1 v_15 v_16) q_19 (Nat.le_of_ble_eq_true rfl) ⟨Nat.le_of_ble_eq_true rfl, Nat.le_of_ble_eq_true rfl⟩ dL_law_236 rfl rfl (Nat.le_of_ble_eq_true rfl)) rfl (fun v_18 h_17 => ?_)
        refine z_aload_n C 2 dL_law_239 rfl ?_
        refine z_aload_n C 0 dL_law_240 rfl ?_
        refine z_iload_n C 3 dL_law_241 rfl ?_
        refine z_iconst (v := (1 : Int32)) C dL_law_242 rfl ?_
        refine z_iadd C dL_law_243 ?_
        refine z_sld C hX dL_law_244 (fun v_20 => ?_)
        refine z_aload_n C 0 dL_law_245 rfl ?_
        refine z_iload_n C 3 dL_law_246 rfl ?_
        refine z_iconst (v := (2 : Int32)) C dL_law_247 rfl ?_
        refine z_iadd C dL_law_248 ?_
        refine z_sld C hX dL_law_249 (fun v_21 => ?_)
        refine z_bind (fun _ q_24 => ?_)
        refine z_calli (z_runV (As := [.int v_20, .int v_21]) (rest := [.int v_18]) C mL_21 (kX12_of N h_17 a2 v_20 v_21) q_24 (Nat.le_of_ble_eq_true rfl) ⟨Nat.le_of_ble_eq_true rfl, Nat.le_of_ble_eq_true rfl⟩ dL_law_250 rfl rfl (Nat.le_of_ble_eq_true rfl)) rfl (fun v_23 h_22 => ?_)
        refine z_icmpeq C 1395 dL_law_253 rfl ?_ ?_
        · refine z_iinc (v := x3 + (6 : Int32)) C 3 dL_law_1395 [(3, .int (x3 + (6 : Int32))), (0, .ref b), (1, .ref a1), (2, .ref a2)] rfl rfl (by decide) rfl ?_
          refine z_goto C 18 dL_law_1398 rfl ?_
          exact z_lv _ [1, 2, 3, 0] rfl (hr18 _ a1 a2 (x3 + (6 : Int32)))
        · refine z_iconst (v := (0 : Int32)) C dL_law_256 rfl ?_
          exact z_zreturn C ⟨rfl, rfl⟩ dL_law_257
      refine z_ite (fun q_25 => ?_) (fun q_25 => ?_)
      · subst q_25
        refine z_table C 258 dL_law_33 (by decide) (by decide) rfl rfl ?_
        refine z_aload_n C 1 dL_law_258 rfl ?_
        refine z_aload_n C 0 dL_law_259 rfl ?_
        refine z_iload_n C 3 dL_law_260 rfl ?_
        refine z_iconst (v := (1 : Int32)) C dL_law_261 rfl ?_
        refine z_iadd C dL_law_262 ?_
        refine z_sld C hX dL_law_263 (fun v_26 => ?_)
        refine z_aload_n C 0 dL_law_264 rfl ?_
        refine z_iload_n C 3 dL_law_265 rfl ?_
        refine z_iconst (v := (2 : Int32)) C dL_law_266 rfl ?_
        refine z_iadd C dL_law_267 ?_
        refine z_sld C hX dL_law_268 (fun v_27 => ?_)
        refine z_aload_n C 0 dL_law_269 rfl ?_
        refine z_iload_n C 3 dL_law_270 rfl ?_
        refine z_iconst (v := (3 : Int32)) C dL_law_271 rfl ?_
        refine z_iadd C dL_law_272 ?_
        refine z_sld C hX dL_law_273 (fun v_28 => ?_)
        refine z_bind (fun _ q_31 => ?_)
        refine z_calli (z_runV (As := [.int v_26, .int v_27, .int v_28]) (rest := []) C mL_22 (kX11_grip N h a1 v_26 v_27 v_28) q_31 (Nat.le_of_ble_eq_true rfl) ⟨Nat.le_of_ble_eq_true rfl, Nat.le_of_ble_eq_true rfl⟩ dL_law_274 rfl rfl (Nat.le_of_ble_eq_true rfl)) rfl (fun v_30 h_29 => ?_)
        refine z_aload_n C 2 dL_law_277 rfl ?_
        refine z_aload_n C 0 dL_law_278 rfl ?_
        refine z_iload_n C 3 dL_law_279 rfl ?_
        refine z_iconst (v := (1 : Int32)) C dL_law_280 rfl ?_
        refine z_iadd C dL_law_281 ?_
        refine z_sld C hX dL_law_282 (fun v_32 => ?_)
        refine z_aload_n C 0 dL_law_283 rfl ?_
        refine z_iload_n C 3 dL_law_284 rfl ?_
        refine z_iconst (v := (2 : Int32)) C dL_law_285 rfl ?_
        refine z_iadd C dL_law_286 ?_
        refine z_sld C hX dL_law_287 (fun v_33 => ?_)
        refine z_aload_n C 0 dL_law_288 rfl ?_
        refine z_iload_n C 3 dL_law_289 rfl ?_
        refine z_iconst (v := (3 : Int32)) C dL_law_290 rfl ?_
        refine z_iadd C dL_law_291 ?_
        refine z_sld C hX dL_law_292 (fun v_34 => ?_)
        refine z_bind (fun _ q_37 => ?_)
        refine z_calli (z_runV (As := [.int v_32, .int v_33, .int v_34]) (rest := [.int v_30]) C mL_26 (kX12_grip N h_29 a2 v_32 v_33 v_34) q_37 (Nat.le_of_ble_eq_true rfl) ⟨Nat.le_of_ble_eq_true rfl, Nat.le_of_ble_eq_true rfl⟩ dL_law_293 rfl rfl (Nat.le_of_ble_eq_true rfl)) rfl (fun v_36 h_35 => ?_)
        refine z_icmpeq C 1395 dL_law_296 rfl ?_ ?_
        · refine z_iinc (v := x3 + (6 : Int32)) C 3 dL_law_1395 [(3, .int (x3 + (6 : Int32))), (0, .ref b), (1, .ref a1), (2, .ref a2)] rfl rfl (by decide) rfl ?_
          refine z_goto C 18 dL_law_1398 rfl ?_
          exact z_lv _ [1, 2, 3, 0] rfl (hr18 _ a1 a2 (x3 + (6 : Int32)))
        · refine z_iconst (v := (0 : Int32)) C dL_law_299 rfl ?_
          exact z_zreturn C ⟨rfl, rfl⟩ dL_law_300
      refine z_ite (fun q_38 => ?_) (fun q_38 => ?_)
      · subst q_38
        refine z_table C 301 dL_law_33 (by decide) (by decide) rfl rfl ?_
        refine z_aload_n C 1 dL_law_301 rfl ?_
        refine z_aload_n C 0 dL_law_302 rfl ?_
        refine z_iload_n C 3 dL_law_303 rfl ?_
        refine z_iconst (v := (1 : Int32)) C dL_law_304 rfl ?_
        refine z_iadd C dL_law_305 ?_
        refine z_sld C hX dL_law_306 (fun v_39 => ?_)
        refine z_aload_n C 0 dL_law_307 rfl ?_
        refine z_iload_n C 3 dL_law_308 rfl ?_
        refine z_iconst (v := (2 : Int32)) C dL_law_309 rfl ?_
        refine z_iadd C dL_law_310 ?_
        refine z_sld C hX dL_law_311 (fun v_40 => ?_)
        refine z_bind (fun _ q_43 => ?_)
        refine z_calli (z_runV (As := [.int v_39, .int v_40]) (rest := []) C mL_27 (kX11_tell N h a1 v_39 v_40) q_43 (Nat.le_of_ble_eq_true rfl) ⟨Nat.le_of_ble_eq_true rfl, Nat.le_of_ble_eq_true rfl⟩ dL_law_312 rfl rfl (Nat.le_of_ble_eq_true rfl)) rfl (fun v_42 h_41 => ?_)
        refine z_aload_n C 2 dL_law_315 rfl ?_
        refine z_aload_n C 0 dL_law_316 rfl ?_
        refine z_iload_n C 3 dL_law_317 rfl ?_
        refine z_iconst (v := (1 : Int32)) C dL_law_318 rfl ?_
        refine z_iadd C dL_law_319 ?_
        refine z_sld C hX dL_law_320 (fun v_44 => ?_)
        refine z_aload_n C 0 dL_law_321 rfl ?_
        refine z_iload_n C 3 dL_law_322 rfl ?_
        refine z_iconst (v := (2 : Int32)) C dL_law_323 rfl ?_
        refine z_iadd C dL_law_324 ?_
        refine z_sld C hX dL_law_325 (fun v_45 => ?_)
        refine z_bind (fun _ q_48 => ?_)
        refine z_calli (z_runV (As := [.int v_44, .int v_45]) (rest := [.int v_42]) C mL_30 (kX12_tell N h_41 a2 v_44 v_45) q_48 (Nat.le_of_ble_eq_true rfl) ⟨Nat.le_of_ble_eq_true rfl, Nat.le_of_ble_eq_true rfl⟩ dL_law_326 rfl rfl (Nat.le_of_ble_eq_true rfl)) rfl (fun v_47 h_46 => ?_)
        refine z_icmpeq C 1395 dL_law_329 rfl ?_ ?_
        · refine z_iinc (v := x3 + (6 : Int32)) C 3 dL_law_1395 [(3, .int (x3 + (6 : Int32))), (0, .ref b), (1, .ref a1), (2, .ref a2)] rfl rfl (by decide) rfl ?_
          refine z_goto C 18 dL_law_1398 rfl ?_
          exact z_lv _ [1, 2, 3, 0] rfl (hr18 _ a1 a2 (x3 + (6 : Int32)))
        · refine z_iconst (v := (0 : Int32)) C dL_law_332 rfl ?_
          exact z_zreturn C ⟨rfl, rfl⟩ dL_law_333
      refine z_ite (fun q_49 => ?_) (fun q_49 => ?_)
      · subst q_49
        refine z_table C 334 dL_law_33 (by decide) (by decide) rfl rfl ?_
        refine z_aload_n C 1 dL_law_334 rfl ?_
        refine z_aload_n C 0 dL_law_335 rfl ?_
        refine z_iload_n C 3 dL_law_336 rfl ?_
        refine z_iconst (v := (1 : Int32)) C dL_law_337 rfl ?_
        refine z_iadd C dL_law_338 ?_
        refine z_sld C hX dL_law_339 (fun v_50 => ?_)
        refine z_aload_n C 0 dL_law_340 rfl ?_
        refine z_iload_n C 3 dL_law_341 rfl ?_
        refine z_iconst (v := (2 : Int32)) C dL_law_342 rfl ?_
        refine z_iadd C dL_law_343 ?_
        refine z_sld C hX dL_law_344 (fun v_51 => ?_)
        refine z_bind (fun _ q_54 => ?_)
        refine z_calli (z_runV (As := [.int v_50, .int v_51]) (rest := []) C mL_31 (kX11_mind N h a1 v_50 v_51) q_54 (Nat.le_of_ble_eq_true rfl) ⟨Nat.le_of_ble_eq_true rfl, Nat.le_of_ble_eq_true rfl⟩ dL_law_345 rfl rfl (Nat.le_of_ble_eq_true rfl)) rfl (fun v_53 h_52 => ?_)
        refine z_aload_n C 2 dL_law_348 rfl ?_
        refine z_aload_n C 0 dL_law_349 rfl ?_
        refine z_iload_n C 3 dL_law_350 rfl ?_
        refine z_iconst (v := (1 : Int32)) C dL_law_351 rfl ?_
        refine z_iadd C dL_law_352 ?_
        refine z_sld C hX dL_law_353 (fun v_55 => ?_)
        refine z_aload_n C 0 dL_law_354 rfl ?_
        refine z_iload_n C 3 dL_law_355 rfl ?_
        refine z_iconst (v := (2 : Int32)) C dL_law_356 rfl ?_
        refine z_iadd C dL_law_357 ?_
        refine z_sld C hX dL_law_358 (fun v_56 => ?_)
        refine z_bind (fun _ q_59 => ?_)
        refine z_calli (z_runV (As := [.int v_55, .int v_56]) (rest := [.int v_53]) C mL_34 (kX12_mind N h_52 a2 v_55 v_56) q_59 (Nat.le_of_ble_eq_true rfl) ⟨Nat.le_of_ble_eq_true rfl, Nat.le_of_ble_eq_true rfl⟩ dL_law_359 rfl rfl (Nat.le_of_ble_eq_true rfl)) rfl (fun v_58 h_57 => ?_)
        refine z_icmpeq C 1395 dL_law_362 rfl ?_ ?_
        · refine z_iinc (v := x3 + (6 : Int32)) C 3 dL_law_1395 [(3, .int (x3 + (6 : Int32))), (0, .ref b), (1, .ref a1), (2, .ref a2)] rfl rfl (by decide) rfl ?_
          refine z_goto C 18 dL_law_1398 rfl ?_
          exact z_lv _ [1, 2, 3, 0] rfl (hr18 _ a1 a2 (x3 + (6 : Int32)))
        · refine z_iconst (v := (0 : Int32)) C dL_law_365 rfl ?_
          exact z_zreturn C ⟨rfl, rfl⟩ dL_law_366
      refine z_ite (fun q_60 => ?_) (fun q_60 => ?_)
      · subst q_60
        refine z_table C 367 dL_law_33 (by decide) (by decide) rfl rfl ?_
        refine z_aload_n C 1 dL_law_367 rfl ?_
        refine z_aload_n C 0 dL_law_368 rfl ?_
        refine z_iload_n C 3 dL_law_369 rfl ?_
        refine z_iconst (v := (1 : Int32)) C dL_law_370 rfl ?_
        refine z_iadd C dL_law_371 ?_
        refine z_sld C hX dL_law_372 (fun v_61 => ?_)
        refine z_aload_n C 0 dL_law_373 rfl ?_
        refine z_iload_n C 3 dL_law_374 rfl ?_
        refine z_iconst (v := (2 : Int32)) C dL_law_375 rfl ?_
        refine z_iadd C dL_law_376 ?_
        refine z_sld C hX dL_law_377 (fun v_62 => ?_)
        refine z_aload_n C 0 dL_law_378 rfl ?_
        refine z_iload_n C 3 dL_law_379 rfl ?_
        refine z_iconst (v := (3 : Int32)) C dL_law_380 rfl ?_
        refine z_iadd C dL_law_381 ?_
        refine z_sld C hX dL_law_382 (fun v_63 => ?_)
        refine z_bind (fun _ q_66 => ?_)
        refine z_calli (z_runV (As := [.int v_61, .int v_62, .int v_63]) (rest := []) C mL_35 (kX11_deed N h a1 v_61 v_62 v_63) q_66 (Nat.le_of_ble_eq_true rfl) ⟨Nat.le_of_ble_eq_true rfl, Nat.le_of_ble_eq_true rfl⟩ dL_law_383 rfl rfl (Nat.le_of_ble_eq_true rfl)) rfl (fun v_65 h_64 => ?_)
        refine z_aload_n C 2 dL_law_386 rfl ?_
        refine z_aload_n C 0 dL_law_387 rfl ?_
        refine z_iload_n C 3 dL_law_388 rfl ?_
        refine z_iconst (v := (1 : Int32)) C dL_law_389 rfl ?_
        refine z_iadd C dL_law_390 ?_
        refine z_sld C hX dL_law_391 (fun v_67 => ?_)
        refine z_aload_n C 0 dL_law_392 rfl ?_
        refine z_iload_n C 3 dL_law_393 rfl ?_
        refine z_iconst (v := (2 : Int32)) C dL_law_394 rfl ?_
        refine z_iadd C dL_law_395 ?_
        refine z_sld C hX dL_law_396 (fun v_68 => ?_)
        refine z_aload_n C 0 dL_law_397 rfl ?_
        refine z_iload_n C 3 dL_law_398 rfl ?_
        refine z_iconst (v := (3 : Int32)) C dL_law_399 rfl ?_
        refine z_iadd C dL_law_400 ?_
        refine z_sld C hX dL_law_401 (fun v_69 => ?_)
        refine z_bind (fun _ q_72 => ?_)
        refine z_calli (z_runV (As := [.int v_67, .int v_68, .int v_69]) (rest := [.int v_65]) C mL_38 (kX12_deed N h_64 a2 v_67 v_68 v_69) q_72 (Nat.le_of_ble_eq_true rfl) ⟨Nat.le_of_ble_eq_true rfl, Nat.le_of_ble_eq_true rfl⟩ dL_law_402 rfl rfl (Nat.le_of_ble_eq_true rfl)) rfl (fun v_71 h_70 => ?_)
        refine z_icmpeq C 1395 dL_law_405 rfl ?_ ?_
        · refine z_iinc (v := x3 + (6 : Int32)) C 3 dL_law_1395 [(3, .int (x3 + (6 : Int32))), (0, .ref b), (1, .ref a1), (2, .ref a2)] rfl rfl (by decide) rfl ?_
          refine z_goto C 18 dL_law_1398 rfl ?_
          exact z_lv _ [1, 2, 3, 0] rfl (hr18 _ a1 a2 (x3 + (6 : Int32)))
        · refine z_iconst (v := (0 : Int32)) C dL_law_408 rfl ?_
          exact z_zreturn C ⟨rfl, rfl⟩ dL_law_409
      refine z_ite (fun q_73 => ?_) (fun q_73 => ?_)
      · subst q_73
        refine z_table C 410 dL_law_33 (by decide) (by decide) rfl rfl ?_
        refine z_aload_n C 1 dL_law_410 rfl ?_
        refine z_aload_n C 0 dL_law_411 rfl ?_
        refine z_iload_n C 3 dL_law_412 rfl ?_
        refine z_iconst (v := (1 : Int32)) C dL_law_413 rfl ?_
        refine z_iadd C dL_law_414 ?_
        refine z_sld C hX dL_law_415 (fun v_74 => ?_)
        refine z_bind (fun _ q_77 => ?_)
        refine z_calli (z_runV (As := [.int v_74]) (rest := []) C mL_39 (kX11_footman N h a1 v_74) q_77 (Nat.le_of_ble_eq_true rfl) ⟨Nat.le_of_ble_eq_true rfl, Nat.le_of_ble_eq_true rfl⟩ dL_law_416 rfl rfl (Nat.le_of_ble_eq_true rfl)) rfl (fun v_76 h_75 => ?_)
        refine z_aload_n C 2 dL_law_419 rfl ?_
        refine z_aload_n C 0 dL_law_420 rfl ?_
        refine z_iload_n C 3 dL_law_421 rfl ?_
        refine z_iconst (v := (1 : Int32)) C dL_law_422 rfl ?_
        refine z_iadd C dL_law_423 ?_
        refine z_sld C hX dL_law_424 (fun v_78 => ?_)
        refine z_bind (fun _ q_81 => ?_)
        refine z_calli (z_runV (As := [.int v_78]) (rest := [.int v_76]) C mL_43 (kX12_footman N h_75 a2 v_78) q_81 (Nat.le_of_ble_eq_true rfl) ⟨Nat.le_of_ble_eq_true rfl, Nat.le_of_ble_eq_true rfl⟩ dL_law_425 rfl rfl (Nat.le_of_ble_eq_true rfl)) rfl (fun v_80 h_79 => ?_)
        refine z_icmpeq C 1395 dL_law_428 rfl ?_ ?_
        · refine z_iinc (v := x3 + (6 : Int32)) C 3 dL_law_1395 [(3, .int (x3 + (6 : Int32))), (0, .ref b), (1, .ref a1), (2, .ref a2)] rfl rfl (by decide) rfl ?_
          refine z_goto C 18 dL_law_1398 rfl ?_
          exact z_lv _ [1, 2, 3, 0] rfl (hr18 _ a1 a2 (x3 + (6 : Int32)))
        · refine z_iconst (v := (0 : Int32)) C dL_law_431 rfl ?_
          exact z_zreturn C ⟨rfl, rfl⟩ dL_law_432
      refine z_ite (fun q_82 => ?_) (fun q_82 => ?_)
      · subst q_82
        refine z_table C 433 dL_law_33 (by decide) (by decide) rfl rfl ?_
        refine z_aload_n C 1 dL_law_433 rfl ?_
        refine z_aload_n C 0 dL_law_434 rfl ?_
        refine z_iload_n C 3 dL_law_435 rfl ?_
        refine z_iconst (v := (1 : Int32)) C dL_law_436 rfl ?_
        refine z_iadd C dL_law_437 ?_
        refine z_sld C hX dL_law_438 (fun v_83 => ?_)
        refine z_aload_n C 0 dL_law_439 rfl ?_
        refine z_iload_n C 3 dL_law_440 rfl ?_
        refine z_iconst (v := (2 : Int32)) C dL_law_441 rfl ?_
        refine z_iadd C dL_law_442 ?_
        refine z_sld C hX dL_law_443 (fun v_84 => ?_)
        refine z_ifeq C 451 dL_law_444 rfl ?_ ?_
        · refine z_iconst (v := (0 : Int32)) C dL_law_451 rfl ?_
          exact z_lv _ [0, 1, 2, 3] rfl (tL_law_452 hX C N hr18 _ a1 a2 x3 a1 v_83 (0 : Int32))
        · refine z_iconst (v := (1 : Int32)) C dL_law_447 rfl ?_
          refine z_goto C 452 dL_law_448 rfl ?_
          exact z_lv _ [0, 1, 2, 3] rfl (tL_law_452 hX C N hr18 _ a1 a2 x3 a1 v_83 (1 : Int32))
      refine z_ite (fun q_85 => ?_) (fun q_85 => ?_)
      · subst q_85
        refine z_table C 482 dL_law_33 (by decide) (by decide) rfl rfl ?_
        refine z_aload_n C 1 dL_law_482 rfl ?_
        refine z_aload_n C 0 dL_law_483 rfl ?_
        refine z_iload_n C 3 dL_law_484 rfl ?_
        refine z_iconst (v := (1 : Int32)) C dL_law_485 rfl ?_
        refine z_iadd C dL_law_486 ?_
        refine z_sld C hX dL_law_487 (fun v_86 => ?_)
        refine z_bind (fun _ q_89 => ?_)
        refine z_calli (z_runV (As := [.int v_86]) (rest := []) C mL_49 (kX11_lost N h a1 v_86) q_89 (Nat.le_of_ble_eq_true rfl) ⟨Nat.le_of_ble_eq_true rfl, Nat.le_of_ble_eq_true rfl⟩ dL_law_488 rfl rfl (Nat.le_of_ble_eq_true rfl)) rfl (fun v_88 h_87 => ?_)
        refine z_aload_n C 2 dL_law_491 rfl ?_
        refine z_aload_n C 0 dL_law_492 rfl ?_
        refine z_iload_n C 3 dL_law_493 rfl ?_
        refine z_iconst (v := (1 : Int32)) C dL_law_494 rfl ?_
        refine z_iadd C dL_law_495 ?_
        refine z_sld C hX dL_law_496 (fun v_90 => ?_)
        refine z_bind (fun _ q_93 => ?_)
        refine z_calli (z_runV (As := [.int v_90]) (rest := [.int v_88]) C mL_52 (kX12_lost N h_87 a2 v_90) q_93 (Nat.le_of_ble_eq_true rfl) ⟨Nat.le_of_ble_eq_true rfl, Nat.le_of_ble_eq_true rfl⟩ dL_law_497 rfl rfl (Nat.le_of_ble_eq_true rfl)) rfl (fun v_92 h_91 => ?_)
        refine z_icmpeq C 1395 dL_law_500 rfl ?_ ?_
        · refine z_iinc (v := x3 + (6 : Int32)) C 3 dL_law_1395 [(3, .int (x3 + (6 : Int32))), (0, .ref b), (1, .ref a1), (2, .ref a2)] rfl rfl (by decide) rfl ?_
          refine z_goto C 18 dL_law_1398 rfl ?_
          exact z_lv _ [1, 2, 3, 0] rfl (hr18 _ a1 a2 (x3 + (6 : Int32)))
        · refine z_iconst (v := (0 : Int32)) C dL_law_503 rfl ?_
          exact z_zreturn C ⟨rfl, rfl⟩ dL_law_504
      refine z_ite (fun q_94 => ?_) (fun q_94 => ?_)
      · subst q_94
        refine z_table C 505 dL_law_33 (by decide) (by decide) rfl rfl ?_
        refine z_aload_n C 1 dL_law_505 rfl ?_
        refine z_aload_n C 0 dL_law_506 rfl ?_
        refine z_iload_n C 3 dL_law_507 rfl ?_
        refine z_iconst (v := (1 : Int32)) C dL_law_508 rfl ?_
        refine z_iadd C dL_law_509 ?_
        refine z_sld C hX dL_law_510 (fun v_95 => ?_)
        refine z_aload_n C 0 dL_law_511 rfl ?_
        refine z_iload_n C 3 dL_law_512 rfl ?_
        refine z_iconst (v := (2 : Int32)) C dL_law_513 rfl ?_
        refine z_iadd C dL_law_514 ?_
        refine z_sld C hX dL_law_515 (fun v_96 => ?_)
        refine z_aload_n C 0 dL_law_516 rfl ?_
        refine z_iload_n C 3 dL_law_517 rfl ?_
        refine z_iconst (v := (3 : Int32)) C dL_law_518 rfl ?_
        refine z_iadd C dL_law_519 ?_
        refine z_sld C hX dL_law_520 (fun v_97 => ?_)
        refine z_bind (fun _ q_100 => ?_)
        refine z_calli (z_runV (As := [.int v_95, .int v_96, .int v_97]) (rest := []) C mL_53 (kX11_row N h a1 v_95 v_96 v_97) q_100 (Nat.le_of_ble_eq_true rfl) ⟨Nat.le_of_ble_eq_true rfl, Nat.le_of_ble_eq_true rfl⟩ dL_law_521 rfl rfl (Nat.le_of_ble_eq_true rfl)) rfl (fun v_99 h_98 => ?_)
        refine z_aload_n C 2 dL_law_524 rfl ?_
        refine z_aload_n C 0 dL_law_525 rfl ?_
        refine z_iload_n C 3 dL_law_526 rfl ?_
        refine z_iconst (v := (1 : Int32)) C dL_law_527 rfl ?_
        refine z_iadd C dL_law_528 ?_
        refine z_sld C hX dL_law_529 (fun v_101 => ?_)
        refine z_aload_n C 0 dL_law_530 rfl ?_
        refine z_iload_n C 3 dL_law_531 rfl ?_
        refine z_iconst (v := (2 : Int32)) C dL_law_532 rfl ?_
        refine z_iadd C dL_law_533 ?_
        refine z_sld C hX dL_law_534 (fun v_102 => ?_)
        refine z_aload_n C 0 dL_law_535 rfl ?_
        refine z_iload_n C 3 dL_law_536 rfl ?_
        refine z_iconst (v := (3 : Int32)) C dL_law_537 rfl ?_
        refine z_iadd C dL_law_538 ?_
        refine z_sld C hX dL_law_539 (fun v_103 => ?_)
        refine z_bind (fun _ q_106 => ?_)
        refine z_calli (z_runV (As := [.int v_101, .int v_102, .int v_103]) (rest := [.int v_99]) C mL_56 (kX12_row N h_98 a2 v_101 v_102 v_103) q_106 (Nat.le_of_ble_eq_true rfl) ⟨Nat.le_of_ble_eq_true rfl, Nat.le_of_ble_eq_true rfl⟩ dL_law_540 rfl rfl (Nat.le_of_ble_eq_true rfl)) rfl (fun v_105 h_104 => ?_)
        refine z_icmpeq C 1395 dL_law_543 rfl ?_ ?_
        · refine z_iinc (v := x3 + (6 : Int32)) C 3 dL_law_1395 [(3, .int (x3 + (6 : Int32))), (0, .ref b), (1, .ref a1), (2, .ref a2)] rfl rfl (by decide) rfl ?_
          refine z_goto C 18 dL_law_1398 rfl ?_
          exact z_lv _ [1, 2, 3, 0] rfl (hr18 _ a1 a2 (x3 + (6 : Int32)))
        · refine z_iconst (v := (0 : Int32)) C dL_law_546 rfl ?_
          exact z_zreturn C ⟨rfl, rfl⟩ dL_law_547
      refine z_ite (fun q_107 => ?_) (fun q_107 => ?_)
      · subst q_107
        refine z_table C 548 dL_law_33 (by decide) (by decide) rfl rfl ?_
        refine z_aload_n C 1 dL_law_548 rfl ?_
        refine z_aload_n C 0 dL_law_549 rfl ?_
        refine z_iload_n C 3 dL_law_550 rfl ?_
        refine z_iconst (v := (1 : Int32)) C dL_law_551 rfl ?_
        refine z_iadd C dL_law_552 ?_
        refine z_sld C hX dL_law_553 (fun v_108 => ?_)
        refine z_bind (fun _ q_111 => ?_)
        refine z_calli (z_runV (As := [.int v_108]) (rest := []) C mL_57 (kX11_feed N h a1 v_108) q_111 (Nat.le_of_ble_eq_true rfl) ⟨Nat.le_of_ble_eq_true rfl, Nat.le_of_ble_eq_true rfl⟩ dL_law_554 rfl rfl (Nat.le_of_ble_eq_true rfl)) rfl (fun v_110 h_109 => ?_)
        refine z_aload_n C 2 dL_law_557 rfl ?_
        refine z_aload_n C 0 dL_law_558 rfl ?_
        refine z_iload_n C 3 dL_law_559 rfl ?_
        refine z_iconst (v := (1 : Int32)) C dL_law_560 rfl ?_
        refine z_iadd C dL_law_561 ?_
        refine z_sld C hX dL_law_562 (fun v_112 => ?_)
        refine z_bind (fun _ q_115 => ?_)
        refine z_calli (z_runV (As := [.int v_112]) (rest := [.int v_110]) C mL_60 (kX12_feed N h_109 a2 v_112) q_115 (Nat.le_of_ble_eq_true rfl) ⟨Nat.le_of_ble_eq_true rfl, Nat.le_of_ble_eq_true rfl⟩ dL_law_563 rfl rfl (Nat.le_of_ble_eq_true rfl)) rfl (fun v_114 h_113 => ?_)
        refine z_icmpeq C 1395 dL_law_566 rfl ?_ ?_
        · refine z_iinc (v := x3 + (6 : Int32)) C 3 dL_law_1395 [(3, .int (x3 + (6 : Int32))), (0, .ref b), (1, .ref a1), (2, .ref a2)] rfl rfl (by decide) rfl ?_
          refine z_goto C 18 dL_law_1398 rfl ?_
          exact z_lv _ [1, 2, 3, 0] rfl (hr18 _ a1 a2 (x3 + (6 : Int32)))
        · refine z_iconst (v := (0 : Int32)) C dL_law_569 rfl ?_
          exact z_zreturn C ⟨rfl, rfl⟩ dL_law_570
      refine z_ite (fun q_116 => ?_) (fun q_116 => ?_)
      · subst q_116
        refine z_table C 571 dL_law_33 (by decide) (by decide) rfl rfl ?_
        refine z_aload_n C 1 dL_law_571 rfl ?_
        refine z_bind (fun _ q_119 => ?_)
        refine z_calli (z_runV (As := []) (rest := []) C mL_61 (kX11_house N h a1) q_119 (Nat.le_of_ble_eq_true rfl) ⟨Nat.le_of_ble_eq_true rfl, Nat.le_of_ble_eq_true rfl⟩ dL_law_572 rfl rfl (Nat.le_of_ble_eq_true rfl)) rfl (fun v_118 h_117 => ?_)
        refine z_aload_n C 2 dL_law_575 rfl ?_
        refine z_bind (fun _ q_122 => ?_)
        refine z_calli (z_runV (As := []) (rest := [.int v_118]) C mL_65 (kX12_house N h_117 a2) q_122 (Nat.le_of_ble_eq_true rfl) ⟨Nat.le_of_ble_eq_true rfl, Nat.le_of_ble_eq_true rfl⟩ dL_law_576 rfl rfl (Nat.le_of_ble_eq_true rfl)) rfl (fun v_121 h_120 => ?_)
        refine z_icmpeq C 1395 dL_law_579 rfl ?_ ?_
        · refine z_iinc (v := x3 + (6 : Int32)) C 3 dL_law_1395 [(3, .int (x3 + (6 : Int32))), (0, .ref b), (1, .ref a1), (2, .ref a2)] rfl rfl (by decide) rfl ?_
          refine z_goto C 18 dL_law_1398 rfl ?_
          exact z_lv _ [1, 2, 3, 0] rfl (hr18 _ a1 a2 (x3 + (6 : Int32)))
        · refine z_iconst (v := (0 : Int32)) C dL_law_582 rfl ?_
          exact z_zreturn C ⟨rfl, rfl⟩ dL_law_583
      refine z_ite (fun q_123 => ?_) (fun q_123 => ?_)
      · subst q_123
        refine z_table C 584 dL_law_33 (by decide) (by decide) rfl rfl ?_
        refine z_aload_n C 1 dL_law_584 rfl ?_
        refine z_aload_n C 0 dL_law_585 rfl ?_
        refine z_iload_n C 3 dL_law_586 rfl ?_
        refine z_iconst (v := (1 : Int32)) C dL_law_587 rfl ?_
        refine z_iadd C dL_law_588 ?_
        refine z_sld C hX dL_law_589 (fun v_124 => ?_)
        refine z_bind (fun _ q_127 => ?_)
        refine z_calli (z_runV (As := [.int v_124]) (rest := []) C mL_66 (kX11_told N h a1 v_124) q_127 (Nat.le_of_ble_eq_true rfl) ⟨Nat.le_of_ble_eq_true rfl, Nat.le_of_ble_eq_true rfl⟩ dL_law_590 rfl rfl (Nat.le_of_ble_eq_true rfl)) rfl (fun v_126 h_125 => ?_)
        refine z_aload_n C 2 dL_law_593 rfl ?_
        refine z_aload_n C 0 dL_law_594 rfl ?_
        refine z_iload_n C 3 dL_law_595 rfl ?_
        refine z_iconst (v := (1 : Int32)) C dL_law_596 rfl ?_
        refine z_iadd C dL_law_597 ?_
        refine z_sld C hX dL_law_598 (fun v_128 => ?_)
        refine z_bind (fun _ q_131 => ?_)
        refine z_calli (z_runV (As := [.int v_128]) (rest := [.int v_126]) C mL_69 (kX12_told N h_125 a2 v_128) q_131 (Nat.le_of_ble_eq_true rfl) ⟨Nat.le_of_ble_eq_true rfl, Nat.le_of_ble_eq_true rfl⟩ dL_law_599 rfl rfl (Nat.le_of_ble_eq_true rfl)) rfl (fun v_130 h_129 => ?_)
        refine z_icmpeq C 1395 dL_law_602 rfl ?_ ?_
        · refine z_iinc (v := x3 + (6 : Int32)) C 3 dL_law_1395 [(3, .int (x3 + (6 : Int32))), (0, .ref b), (1, .ref a1), (2, .ref a2)] rfl rfl (by decide) rfl ?_
          refine z_goto C 18 dL_law_1398 rfl ?_
          exact z_lv _ [1, 2, 3, 0] rfl (hr18 _ a1 a2 (x3 + (6 : Int32)))
        · refine z_iconst (v := (0 : Int32)) C dL_law_605 rfl ?_
          exact z_zreturn C ⟨rfl, rfl⟩ dL_law_606
      refine z_ite (fun q_132 => ?_) (fun q_132 => ?_)
      · subst q_132
        refine z_table C 607 dL_law_33 (by decide) (by decide) rfl rfl ?_
        refine z_aload_n C 1 dL_law_607 rfl ?_
        refine z_aload_n C 0 dL_law_608 rfl ?_
        refine z_iload_n C 3 dL_law_609 rfl ?_
        refine z_iconst (v := (1 : Int32)) C dL_law_610 rfl ?_
        refine z_iadd C dL_law_611 ?_
        refine z_sld C hX dL_law_612 (fun v_133 => ?_)
        refine z_bind (fun _ q_136 => ?_)
        refine z_calli (z_runV (As := [.int v_133]) (rest := []) C mL_70 (kX11_pass N h a1 v_133) q_136 (Nat.le_of_ble_eq_true rfl) ⟨Nat.le_of_ble_eq_true rfl, Nat.le_of_ble_eq_true rfl⟩ dL_law_613 rfl rfl (Nat.le_of_ble_eq_true rfl)) rfl (fun v_135 h_134 => ?_)
        refine z_aload_n C 2 dL_law_616 rfl ?_
        refine z_aload_n C 0 dL_law_617 rfl ?_
        refine z_iload_n C 3 dL_law_618 rfl ?_
        refine z_iconst (v := (1 : Int32)) C dL_law_619 rfl ?_
        refine z_iadd C dL_law_620 ?_
        refine z_sld C hX dL_law_621 (fun v_137 => ?_)
        refine z_bind (fun _ q_140 => ?_)
        refine z_calli (z_runV (As := [.int v_137]) (rest := [.int v_135]) C mL_73 (kX12_pass N h_134 a2 v_137) q_140 (Nat.le_of_ble_eq_true rfl) ⟨Nat.le_of_ble_eq_true rfl, Nat.le_of_ble_eq_true rfl⟩ dL_law_622 rfl rfl (Nat.le_of_ble_eq_true rfl)) rfl (fun v_139 h_138 => ?_)
        refine z_icmpeq C 1395 dL_law_625 rfl ?_ ?_
        · refine z_iinc (v := x3 + (6 : Int32)) C 3 dL_law_1395 [(3, .int (x3 + (6 : Int32))), (0, .ref b), (1, .ref a1), (2, .ref a2)] rfl rfl (by decide) rfl ?_
          refine z_goto C 18 dL_law_1398 rfl ?_
          exact z_lv _ [1, 2, 3, 0] rfl (hr18 _ a1 a2 (x3 + (6 : Int32)))
        · refine z_iconst (v := (0 : Int32)) C dL_law_628 rfl ?_
          exact z_zreturn C ⟨rfl, rfl⟩ dL_law_629
      refine z_ite (fun q_141 => ?_) (fun q_141 => ?_)
      · subst q_141
        refine z_table C 630 dL_law_33 (by decide) (by decide) rfl rfl ?_
        refine z_aload_n C 1 dL_law_630 rfl ?_
        refine z_aload_n C 0 dL_law_631 rfl ?_
        refine z_iload_n C 3 dL_law_632 rfl ?_
        refine z_iconst (v := (1 : Int32)) C dL_law_633 rfl ?_
        refine z_iadd C dL_law_634 ?_
        refine z_sld C hX dL_law_635 (fun v_142 => ?_)
        refine z_aload_n C 0 dL_law_636 rfl ?_
        refine z_iload_n C 3 dL_law_637 rfl ?_
        refine z_iconst (v := (2 : Int32)) C dL_law_638 rfl ?_
        refine z_iadd C dL_law_639 ?_
        refine z_sld C hX dL_law_640 (fun v_143 => ?_)
        refine z_bind (fun _ q_146 => ?_)
        refine z_calli (z_runV (As := [.int v_142, .int v_143]) (rest := []) C mL_74 (kX11_on N h a1 v_142 v_143) q_146 (Nat.le_of_ble_eq_true rfl) ⟨Nat.le_of_ble_eq_true rfl, Nat.le_of_ble_eq_true rfl⟩ dL_law_641 rfl rfl (Nat.le_of_ble_eq_true rfl)) rfl (fun v_145 h_144 => ?_)
        refine z_aload_n C 2 dL_law_644 rfl ?_
        refine z_aload_n C 0 dL_law_645 rfl ?_
        refine z_iload_n C 3 dL_law_646 rfl ?_
        refine z_iconst (v := (1 : Int32)) C dL_law_647 rfl ?_
        refine z_iadd C dL_law_648 ?_
        refine z_sld C hX dL_law_649 (fun v_147 => ?_)
        refine z_aload_n C 0 dL_law_650 rfl ?_
        refine z_iload_n C 3 dL_law_651 rfl ?_
        refine z_iconst (v := (2 : Int32)) C dL_law_652 rfl ?_
        refine z_iadd C dL_law_653 ?_
        refine z_sld C hX dL_law_654 (fun v_148 => ?_)
        refine z_bind (fun _ q_151 => ?_)
        refine z_calli (z_runV (As := [.int v_147, .int v_148]) (rest := [.int v_145]) C mL_77 (kX12_on N h_144 a2 v_147 v_148) q_151 (Nat.le_of_ble_eq_true rfl) ⟨Nat.le_of_ble_eq_true rfl, Nat.le_of_ble_eq_true rfl⟩ dL_law_655 rfl rfl (Nat.le_of_ble_eq_true rfl)) rfl (fun v_150 h_149 => ?_)
        refine z_icmpeq C 1395 dL_law_658 rfl ?_ ?_
        · refine z_iinc (v := x3 + (6 : Int32)) C 3 dL_law_1395 [(3, .int (x3 + (6 : Int32))), (0, .ref b), (1, .ref a1), (2, .ref a2)] rfl rfl (by decide) rfl ?_
          refine z_goto C 18 dL_law_1398 rfl ?_
          exact z_lv _ [1, 2, 3, 0] rfl (hr18 _ a1 a2 (x3 + (6 : Int32)))
        · refine z_iconst (v := (0 : Int32)) C dL_law_661 rfl ?_
          exact z_zreturn C ⟨rfl, rfl⟩ dL_law_662
      refine z_ite (fun q_152 => ?_) (fun q_152 => ?_)
      · subst q_152
        refine z_table C 663 dL_law_33 (by decide) (by decide) rfl rfl ?_
        refine z_aload_n C 1 dL_law_663 rfl ?_
        refine z_aload_n C 0 dL_law_664 rfl ?_
        refine z_iload_n C 3 dL_law_665 rfl ?_
        refine z_iconst (v := (1 : Int32)) C dL_law_666 rfl ?_
        refine z_iadd C dL_law_667 ?_
        refine z_sld C hX dL_law_668 (fun v_153 => ?_)
        refine z_aload_n C 0 dL_law_669 rfl ?_
        refine z_iload_n C 3 dL_law_670 rfl ?_
        refine z_iconst (v := (2 : Int32)) C dL_law_671 rfl ?_
        refine z_iadd C dL_law_672 ?_
        refine z_sld C hX dL_law_673 (fun v_154 => ?_)
        refine z_aload_n C 0 dL_law_674 rfl ?_
        refine z_iload_n C 3 dL_law_675 rfl ?_
        refine z_iconst (v := (3 : Int32)) C dL_law_676 rfl ?_
        refine z_iadd C dL_law_677 ?_
        refine z_sld C hX dL_law_678 (fun v_155 => ?_)
        refine z_aload_n C 0 dL_law_679 rfl ?_
        refine z_iload_n C 3 dL_law_680 rfl ?_
        refine z_iconst (v := (4 : Int32)) C dL_law_681 rfl ?_
        refine z_iadd C dL_law_682 ?_
        refine z_sld C hX dL_law_683 (fun v_156 => ?_)
        refine z_ifeq C 691 dL_law_684 rfl ?_ ?_
        · refine z_iconst (v := (0 : Int32)) C dL_law_691 rfl ?_
          exact z_lv _ [0, 1, 2, 3] rfl (tL_law_692 hX C N hr18 _ a1 a2 x3 a1 v_153 v_154 v_155 (0 : Int32))
        · refine z_iconst (v := (1 : Int32)) C dL_law_687 rfl ?_
          refine z_goto C 692 dL_law_688 rfl ?_
          exact z_lv _ [0, 1, 2, 3] rfl (tL_law_692 hX C N hr18 _ a1 a2 x3 a1 v_153 v_154 v_155 (1 : Int32))
      refine z_ite (fun q_157 => ?_) (fun q_157 => ?_)
      · subst q_157
        refine z_table C 732 dL_law_33 (by decide) (by decide) rfl rfl ?_
        refine z_aload_n C 1 dL_law_732 rfl ?_
        refine z_bind (fun _ q_160 => ?_)
        refine z_calli (z_runV (As := []) (rest := []) C mL_83 (kX11_wrong N h a1) q_160 (Nat.le_of_ble_eq_true rfl) ⟨Nat.le_of_ble_eq_true rfl, Nat.le_of_ble_eq_true rfl⟩ dL_law_733 rfl rfl (Nat.le_of_ble_eq_true rfl)) rfl (fun v_159 h_158 => ?_)
        refine z_aload_n C 2 dL_law_736 rfl ?_
        refine z_bind (fun _ q_163 => ?_)
        refine z_calli (z_runV (As := []) (rest := [.int v_159]) C mL_86 (kX12_wrong N h_158 a2) q_163 (Nat.le_of_ble_eq_true rfl) ⟨Nat.le_of_ble_eq_true rfl, Nat.le_of_ble_eq_true rfl⟩ dL_law_737 rfl rfl (Nat.le_of_ble_eq_true rfl)) rfl (fun v_162 h_161 => ?_)
        refine z_icmpeq C 1395 dL_law_740 rfl ?_ ?_
        · refine z_iinc (v := x3 + (6 : Int32)) C 3 dL_law_1395 [(3, .int (x3 + (6 : Int32))), (0, .ref b), (1, .ref a1), (2, .ref a2)] rfl rfl (by decide) rfl ?_
          refine z_goto C 18 dL_law_1398 rfl ?_
          exact z_lv _ [1, 2, 3, 0] rfl (hr18 _ a1 a2 (x3 + (6 : Int32)))
        · refine z_iconst (v := (0 : Int32)) C dL_law_743 rfl ?_
          exact z_zreturn C ⟨rfl, rfl⟩ dL_law_744
      refine z_ite (fun q_164 => ?_) (fun q_164 => ?_)
      · subst q_164
        refine z_table C 745 dL_law_33 (by decide) (by decide) rfl rfl ?_
        refine z_aload_n C 1 dL_law_745 rfl ?_
        refine z_aload_n C 0 dL_law_746 rfl ?_
        refine z_iload_n C 3 dL_law_747 rfl ?_
        refine z_iconst (v := (1 : Int32)) C dL_law_748 rfl ?_
        refine z_iadd C dL_law_749 ?_
        refine z_sld C hX dL_law_750 (fun v_165 => ?_)
        refine z_aload_n C 0 dL_law_751 rfl ?_
        refine z_iload_n C 3 dL_law_752 rfl ?_
        refine z_iconst (v := (2 : Int32)) C dL_law_753 rfl ?_
        refine z_iadd C dL_law_754 ?_
        refine z_sld C hX dL_law_755 (fun v_166 => ?_)
        refine z_bind (fun _ q_169 => ?_)
        refine z_calli (z_runV (As := [.int v_165, .int v_166]) (rest := []) C mL_87 (kX11_can N h a1 v_165 v_166) q_169 (Nat.le_of_ble_eq_true rfl) ⟨Nat.le_of_ble_eq_true rfl, Nat.le_of_ble_eq_true rfl⟩ dL_law_756 rfl rfl (Nat.le_of_ble_eq_true rfl)) rfl (fun v_168 h_167 => ?_)
        refine z_aload_n C 2 dL_law_759 rfl ?_
        refine z_aload_n C 0 dL_law_760 rfl ?_
        refine z_iload_n C 3 dL_law_761 rfl ?_
        refine z_iconst (v := (1 : Int32)) C dL_law_762 rfl ?_
        refine z_iadd C dL_law_763 ?_
        refine z_sld C hX dL_law_764 (fun v_170 => ?_)
        refine z_aload_n C 0 dL_law_765 rfl ?_
        refine z_iload_n C 3 dL_law_766 rfl ?_
        refine z_iconst (v := (2 : Int32)) C dL_law_767 rfl ?_
        refine z_iadd C dL_law_768 ?_
        refine z_sld C hX dL_law_769 (fun v_171 => ?_)
        refine z_bind (fun _ q_174 => ?_)
        refine z_calli (z_runV (As := [.int v_170, .int v_171]) (rest := [.int v_168]) C mL_90 (kX12_can N h_167 a2 v_170 v_171) q_174 (Nat.le_of_ble_eq_true rfl) ⟨Nat.le_of_ble_eq_true rfl, Nat.le_of_ble_eq_true rfl⟩ dL_law_770 rfl rfl (Nat.le_of_ble_eq_true rfl)) rfl (fun v_173 h_172 => ?_)
        refine z_icmpeq C 1395 dL_law_773 rfl ?_ ?_
        · refine z_iinc (v := x3 + (6 : Int32)) C 3 dL_law_1395 [(3, .int (x3 + (6 : Int32))), (0, .ref b), (1, .ref a1), (2, .ref a2)] rfl rfl (by decide) rfl ?_
          refine z_goto C 18 dL_law_1398 rfl ?_
          exact z_lv _ [1, 2, 3, 0] rfl (hr18 _ a1 a2 (x3 + (6 : Int32)))
        · refine z_iconst (v := (0 : Int32)) C dL_law_776 rfl ?_
          exact z_zreturn C ⟨rfl, rfl⟩ dL_law_777
      refine z_ite (fun q_175 => ?_) (fun q_175 => ?_)
      · subst q_175
        refine z_table C 778 dL_law_33 (by decide) (by decide) rfl rfl ?_
        refine z_aload_n C 1 dL_law_778 rfl ?_
        refine z_aload_n C 0 dL_law_779 rfl ?_
        refine z_iload_n C 3 dL_law_780 rfl ?_
        refine z_iconst (v := (1 : Int32)) C dL_law_781 rfl ?_
        refine z_iadd C dL_law_782 ?_
        refine z_sld C hX dL_law_783 (fun v_176 => ?_)
        refine z_aload_n C 0 dL_law_784 rfl ?_
        refine z_iload_n C 3 dL_law_785 rfl ?_
        refine z_iconst (v := (2 : Int32)) C dL_law_786 rfl ?_
        refine z_iadd C dL_law_787 ?_
        refine z_sld C hX dL_law_788 (fun v_177 => ?_)
        refine z_aload_n C 0 dL_law_789 rfl ?_
        refine z_iload_n C 3 dL_law_790 rfl ?_
        refine z_iconst (v := (3 : Int32)) C dL_law_791 rfl ?_
        refine z_iadd C dL_law_792 ?_
        refine z_sld C hX dL_law_793 (fun v_178 => ?_)
        refine z_aload_n C 0 dL_law_794 rfl ?_
        refine z_iload_n C 3 dL_law_795 rfl ?_
        refine z_iconst (v := (4 : Int32)) C dL_law_796 rfl ?_
        refine z_iadd C dL_law_797 ?_
        refine z_sld C hX dL_law_798 (fun v_179 => ?_)
        refine z_bind (fun _ q_182 => ?_)
        refine z_calli (z_runV (As := [.int v_176, .int v_177, .int v_178, .int v_179]) (rest := []) C mL_91 (kX11_knew N h a1 v_176 v_177 v_178 v_179) q_182 (Nat.le_of_ble_eq_true rfl) ⟨Nat.le_of_ble_eq_true rfl, Nat.le_of_ble_eq_true rfl⟩ dL_law_799 rfl rfl (Nat.le_of_ble_eq_true rfl)) rfl (fun v_181 h_180 => ?_)
        refine z_aload_n C 2 dL_law_802 rfl ?_
        refine z_aload_n C 0 dL_law_803 rfl ?_
        refine z_iload_n C 3 dL_law_804 rfl ?_
        refine z_iconst (v := (1 : Int32)) C dL_law_805 rfl ?_
        refine z_iadd C dL_law_806 ?_
        refine z_sld C hX dL_law_807 (fun v_183 => ?_)
        refine z_aload_n C 0 dL_law_808 rfl ?_
        refine z_iload_n C 3 dL_law_809 rfl ?_
        refine z_iconst (v := (2 : Int32)) C dL_law_810 rfl ?_
        refine z_iadd C dL_law_811 ?_
        refine z_sld C hX dL_law_812 (fun v_184 => ?_)
        refine z_aload_n C 0 dL_law_813 rfl ?_
        refine z_iload_n C 3 dL_law_814 rfl ?_
        refine z_iconst (v := (3 : Int32)) C dL_law_815 rfl ?_
        refine z_iadd C dL_law_816 ?_
        refine z_sld C hX dL_law_817 (fun v_185 => ?_)
        refine z_aload_n C 0 dL_law_818 rfl ?_
        refine z_iload_n C 3 dL_law_819 rfl ?_
        refine z_iconst (v := (4 : Int32)) C dL_law_820 rfl ?_
        refine z_iadd C dL_law_821 ?_
        refine z_sld C hX dL_law_822 (fun v_186 => ?_)
        refine z_bind (fun _ q_189 => ?_)
        refine z_calli (z_runV (As := [.int v_183, .int v_184, .int v_185, .int v_186]) (rest := [.int v_181]) C mL_95 (kX12_knew N h_180 a2 v_183 v_184 v_185 v_186) q_189 (Nat.le_of_ble_eq_true rfl) ⟨Nat.le_of_ble_eq_true rfl, Nat.le_of_ble_eq_true rfl⟩ dL_law_823 rfl rfl (Nat.le_of_ble_eq_true rfl)) rfl (fun v_188 h_187 => ?_)
        refine z_icmpeq C 1395 dL_law_826 rfl ?_ ?_
        · refine z_iinc (v := x3 + (6 : Int32)) C 3 dL_law_1395 [(3, .int (x3 + (6 : Int32))), (0, .ref b), (1, .ref a1), (2, .ref a2)] rfl rfl (by decide) rfl ?_
          refine z_goto C 18 dL_law_1398 rfl ?_
          exact z_lv _ [1, 2, 3, 0] rfl (hr18 _ a1 a2 (x3 + (6 : Int32)))
        · refine z_iconst (v := (0 : Int32)) C dL_law_829 rfl ?_
          exact z_zreturn C ⟨rfl, rfl⟩ dL_law_830
      refine z_ite (fun q_190 => ?_) (fun q_190 => ?_)
      · subst q_190
        refine z_table C 831 dL_law_33 (by decide) (by decide) rfl rfl ?_
        refine z_aload_n C 1 dL_law_831 rfl ?_
        refine z_aload_n C 0 dL_law_832 rfl ?_
        refine z_iload_n C 3 dL_law_833 rfl ?_
        refine z_iconst (v := (1 : Int32)) C dL_law_834 rfl ?_
        refine z_iadd C dL_law_835 ?_
        refine z_sld C hX dL_law_836 (fun v_191 => ?_)
        refine z_aload_n C 0 dL_law_837 rfl ?_
        refine z_iload_n C 3 dL_law_838 rfl ?_
        refine z_iconst (v := (2 : Int32)) C dL_law_839 rfl ?_
        refine z_iadd C dL_law_840 ?_
        refine z_sld C hX dL_law_841 (fun v_192 => ?_)
        refine z_bind (fun _ q_195 => ?_)
        refine z_calll (z_runV (As := [.int v_191, .int v_192]) (rest := []) C mL_96 (kX11_odds N h a1 v_191 v_192) q_195 (Nat.le_of_ble_eq_true rfl) ⟨Nat.le_of_ble_eq_true rfl, Nat.le_of_ble_eq_true rfl⟩ dL_law_842 rfl rfl (Nat.le_of_ble_eq_true rfl)) rfl (fun v_194 h_193 => ?_)
        refine z_aload_n C 2 dL_law_845 rfl ?_
        refine z_aload_n C 0 dL_law_846 rfl ?_
        refine z_iload_n C 3 dL_law_847 rfl ?_
        refine z_iconst (v := (1 : Int32)) C dL_law_848 rfl ?_
        refine z_iadd C dL_law_849 ?_
        refine z_sld C hX dL_law_850 (fun v_196 => ?_)
        refine z_aload_n C 0 dL_law_851 rfl ?_
        refine z_iload_n C 3 dL_law_852 rfl ?_
        refine z_iconst (v := (2 : Int32)) C dL_law_853 rfl ?_
        refine z_iadd C dL_law_854 ?_
        refine z_sld C hX dL_law_855 (fun v_197 => ?_)
        refine z_bind (fun _ q_200 => ?_)
        refine z_calll (z_runV (As := [.int v_196, .int v_197]) (rest := [.long v_194]) C mL_100 (kX12_odds N h_193 a2 v_196 v_197) q_200 (Nat.le_of_ble_eq_true rfl) ⟨Nat.le_of_ble_eq_true rfl, Nat.le_of_ble_eq_true rfl⟩ dL_law_856 rfl rfl (Nat.le_of_ble_eq_true rfl)) rfl (fun v_199 h_198 => ?_)
        refine z_lcmp C dL_law_859 ?_
        refine z_ifeq C 1395 dL_law_860 rfl ?_ ?_
        · refine z_iinc (v := x3 + (6 : Int32)) C 3 dL_law_1395 [(3, .int (x3 + (6 : Int32))), (0, .ref b), (1, .ref a1), (2, .ref a2)] rfl rfl (by decide) rfl ?_
          refine z_goto C 18 dL_law_1398 rfl ?_
          exact z_lv _ [1, 2, 3, 0] rfl (hr18 _ a1 a2 (x3 + (6 : Int32)))
        · refine z_iconst (v := (0 : Int32)) C dL_law_863 rfl ?_
          exact z_zreturn C ⟨rfl, rfl⟩ dL_law_864
      refine z_ite (fun q_201 => ?_) (fun q_201 => ?_)
      · subst q_201
        refine z_table C 865 dL_law_33 (by decide) (by decide) rfl rfl ?_
        refine z_aload_n C 1 dL_law_865 rfl ?_
        refine z_aload_n C 0 dL_law_866 rfl ?_
        refine z_iload_n C 3 dL_law_867 rfl ?_
        refine z_iconst (v := (1 : Int32)) C dL_law_868 rfl ?_
        refine z_iadd C dL_law_869 ?_
        refine z_sld C hX dL_law_870 (fun v_202 => ?_)
        refine z_aload_n C 0 dL_law_871 rfl ?_
        refine z_iload_n C 3 dL_law_872 rfl ?_
        refine z_iconst (v := (2 : Int32)) C dL_law_873 rfl ?_
        refine z_iadd C dL_law_874 ?_
        refine z_sld C hX dL_law_875 (fun v_203 => ?_)
        refine z_bind (fun _ q_206 => ?_)
        refine z_calll (z_runV (As := [.int v_202, .int v_203]) (rest := []) C mL_101 (kX11_mean N h a1 v_202 v_203) q_206 (Nat.le_of_ble_eq_true rfl) ⟨Nat.le_of_ble_eq_true rfl, Nat.le_of_ble_eq_true rfl⟩ dL_law_876 rfl rfl (Nat.le_of_ble_eq_true rfl)) rfl (fun v_205 h_204 => ?_)
        refine z_aload_n C 2 dL_law_879 rfl ?_
        refine z_aload_n C 0 dL_law_880 rfl ?_
        refine z_iload_n C 3 dL_law_881 rfl ?_
        refine z_iconst (v := (1 : Int32)) C dL_law_882 rfl ?_
        refine z_iadd C dL_law_883 ?_
        refine z_sld C hX dL_law_884 (fun v_207 => ?_)
        refine z_aload_n C 0 dL_law_885 rfl ?_
        refine z_iload_n C 3 dL_law_886 rfl ?_
        refine z_iconst (v := (2 : Int32)) C dL_law_887 rfl ?_
        refine z_iadd C dL_law_888 ?_
        refine z_sld C hX dL_law_889 (fun v_208 => ?_)
        refine z_bind (fun _ q_211 => ?_)
        refine z_calll (z_runV (As := [.int v_207, .int v_208]) (rest := [.long v_205]) C mL_104 (kX12_mean N h_204 a2 v_207 v_208) q_211 (Nat.le_of_ble_eq_true rfl) ⟨Nat.le_of_ble_eq_true rfl, Nat.le_of_ble_eq_true rfl⟩ dL_law_890 rfl rfl (Nat.le_of_ble_eq_true rfl)) rfl (fun v_210 h_209 => ?_)
        refine z_lcmp C dL_law_893 ?_
        refine z_ifeq C 1395 dL_law_894 rfl ?_ ?_
        · refine z_iinc (v := x3 + (6 : Int32)) C 3 dL_law_1395 [(3, .int (x3 + (6 : Int32))), (0, .ref b), (1, .ref a1), (2, .ref a2)] rfl rfl (by decide) rfl ?_
          refine z_goto C 18 dL_law_1398 rfl ?_
          exact z_lv _ [1, 2, 3, 0] rfl (hr18 _ a1 a2 (x3 + (6 : Int32)))
        · refine z_iconst (v := (0 : Int32)) C dL_law_897 rfl ?_
          exact z_zreturn C ⟨rfl, rfl⟩ dL_law_898
      refine z_ite (fun q_212 => ?_) (fun q_212 => ?_)
      · subst q_212
        refine z_table C 899 dL_law_33 (by decide) (by decide) rfl rfl ?_
        refine z_aload_n C 1 dL_law_899 rfl ?_
        refine z_aload_n C 0 dL_law_900 rfl ?_
        refine z_iload_n C 3 dL_law_901 rfl ?_
        refine z_iconst (v := (1 : Int32)) C dL_law_902 rfl ?_
        refine z_iadd C dL_law_903 ?_
        refine z_sld C hX dL_law_904 (fun v_213 => ?_)
        refine z_aload_n C 0 dL_law_905 rfl ?_
        refine z_iload_n C 3 dL_law_906 rfl ?_
        refine z_iconst (v := (2 : Int32)) C dL_law_907 rfl ?_
        refine z_iadd C dL_law_908 ?_
        refine z_sld C hX dL_law_909 (fun v_214 => ?_)
        refine z_bind (fun _ q_217 => ?_)
        refine z_calli (z_runV (As := [.int v_213, .int v_214]) (rest := []) C mL_105 (kX11_plan N h a1 v_213 v_214) q_217 (Nat.le_of_ble_eq_true rfl) ⟨Nat.le_of_ble_eq_true rfl, Nat.le_of_ble_eq_true rfl⟩ dL_law_910 rfl rfl (Nat.le_of_ble_eq_true rfl)) rfl (fun v_216 h_215 => ?_)
        refine z_aload_n C 2 dL_law_913 rfl ?_
        refine z_aload_n C 0 dL_law_914 rfl ?_
        refine z_iload_n C 3 dL_law_915 rfl ?_
        refine z_iconst (v := (1 : Int32)) C dL_law_916 rfl ?_
        refine z_iadd C dL_law_917 ?_
        refine z_sld C hX dL_law_918 (fun v_218 => ?_)
        refine z_aload_n C 0 dL_law_919 rfl ?_
        refine z_iload_n C 3 dL_law_920 rfl ?_
        refine z_iconst (v := (2 : Int32)) C dL_law_921 rfl ?_
        refine z_iadd C dL_law_922 ?_
        refine z_sld C hX dL_law_923 (fun v_219 => ?_)
        refine z_bind (fun _ q_222 => ?_)
        refine z_calli (z_runV (As := [.int v_218, .int v_219]) (rest := [.int v_216]) C mL_108 (kX12_plan N h_215 a2 v_218 v_219) q_222 (Nat.le_of_ble_eq_true rfl) ⟨Nat.le_of_ble_eq_true rfl, Nat.le_of_ble_eq_true rfl⟩ dL_law_924 rfl rfl (Nat.le_of_ble_eq_true rfl)) rfl (fun v_221 h_220 => ?_)
        refine z_icmpeq C 1395 dL_law_927 rfl ?_ ?_
        · refine z_iinc (v := x3 + (6 : Int32)) C 3 dL_law_1395 [(3, .int (x3 + (6 : Int32))), (0, .ref b), (1, .ref a1), (2, .ref a2)] rfl rfl (by decide) rfl ?_
          refine z_goto C 18 dL_law_1398 rfl ?_
          exact z_lv _ [1, 2, 3, 0] rfl (hr18 _ a1 a2 (x3 + (6 : Int32)))
        · refine z_iconst (v := (0 : Int32)) C dL_law_930 rfl ?_
          exact z_zreturn C ⟨rfl, rfl⟩ dL_law_931
      refine z_ite (fun q_223 => ?_) (fun q_223 => ?_)
      · subst q_223
        refine z_table C 932 dL_law_33 (by decide) (by decide) rfl rfl ?_
        refine z_aload_n C 1 dL_law_932 rfl ?_
        refine z_aload_n C 0 dL_law_933 rfl ?_
        refine z_iload_n C 3 dL_law_934 rfl ?_
        refine z_iconst (v := (1 : Int32)) C dL_law_935 rfl ?_
        refine z_iadd C dL_law_936 ?_
        refine z_sld C hX dL_law_937 (fun v_224 => ?_)
        refine z_bind (fun _ q_227 => ?_)
        refine z_calli (z_runV (As := [.int v_224]) (rest := []) C mL_109 (kX11_ends N h a1 v_224) q_227 (Nat.le_of_ble_eq_true rfl) ⟨Nat.le_of_ble_eq_true rfl, Nat.le_of_ble_eq_true rfl⟩ dL_law_938 rfl rfl (Nat.le_of_ble_eq_true rfl)) rfl (fun v_226 h_225 => ?_)
        refine z_aload_n C 2 dL_law_941 rfl ?_
        refine z_aload_n C 0 dL_law_942 rfl ?_
        refine z_iload_n C 3 dL_law_943 rfl ?_
        refine z_iconst (v := (1 : Int32)) C dL_law_944 rfl ?_
        refine z_iadd C dL_law_945 ?_
        refine z_sld C hX dL_law_946 (fun v_228 => ?_)
        refine z_bind (fun _ q_231 => ?_)
        refine z_calli (z_runV (As := [.int v_228]) (rest := [.int v_226]) C mL_112 (kX12_ends N h_225 a2 v_228) q_231 (Nat.le_of_ble_eq_true rfl) ⟨Nat.le_of_ble_eq_true rfl, Nat.le_of_ble_eq_true rfl⟩ dL_law_947 rfl rfl (Nat.le_of_ble_eq_true rfl)) rfl (fun v_230 h_229 => ?_)
        refine z_icmpeq C 1395 dL_law_950 rfl ?_ ?_
        · refine z_iinc (v := x3 + (6 : Int32)) C 3 dL_law_1395 [(3, .int (x3 + (6 : Int32))), (0, .ref b), (1, .ref a1), (2, .ref a2)] rfl rfl (by decide) rfl ?_
          refine z_goto C 18 dL_law_1398 rfl ?_
          exact z_lv _ [1, 2, 3, 0] rfl (hr18 _ a1 a2 (x3 + (6 : Int32)))
        · refine z_iconst (v := (0 : Int32)) C dL_law_953 rfl ?_
          exact z_zreturn C ⟨rfl, rfl⟩ dL_law_954
      refine z_ite (fun q_232 => ?_) (fun q_232 => ?_)
      · subst q_232
        refine z_table C 955 dL_law_33 (by decide) (by decide) rfl rfl ?_
        refine z_aload_n C 1 dL_law_955 rfl ?_
        refine z_aload_n C 0 dL_law_956 rfl ?_
        refine z_iload_n C 3 dL_law_957 rfl ?_
        refine z_iconst (v := (1 : Int32)) C dL_law_958 rfl ?_
        refine z_iadd C dL_law_959 ?_
        refine z_sld C hX dL_law_960 (fun v_233 => ?_)
        refine z_aload_n C 0 dL_law_961 rfl ?_
        refine z_iload_n C 3 dL_law_962 rfl ?_
        refine z_iconst (v := (2 : Int32)) C dL_law_963 rfl ?_
        refine z_iadd C dL_law_964 ?_
        refine z_sld C hX dL_law_965 (fun v_234 => ?_)
        refine z_bind (fun _ q_237 => ?_)
        refine z_calli (z_runV (As := [.int v_233, .int v_234]) (rest := []) C mL_113 (kX11_book N h a1 v_233 v_234) q_237 (Nat.le_of_ble_eq_true rfl) ⟨Nat.le_of_ble_eq_true rfl, Nat.le_of_ble_eq_true rfl⟩ dL_law_966 rfl rfl (Nat.le_of_ble_eq_true rfl)) rfl (fun v_236 h_235 => ?_)
        refine z_aload_n C 2 dL_law_969 rfl ?_
        refine z_aload_n C 0 dL_law_970 rfl ?_
        refine z_iload_n C 3 dL_law_971 rfl ?_
        refine z_iconst (v := (1 : Int32)) C dL_law_972 rfl ?_
        refine z_iadd C dL_law_973 ?_
        refine z_sld C hX dL_law_974 (fun v_238 => ?_)
        refine z_aload_n C 0 dL_law_975 rfl ?_
        refine z_iload_n C 3 dL_law_976 rfl ?_
        refine z_iconst (v := (2 : Int32)) C dL_law_977 rfl ?_
        refine z_iadd C dL_law_978 ?_
        refine z_sld C hX dL_law_979 (fun v_239 => ?_)
        refine z_bind (fun _ q_242 => ?_)
        refine z_calli (z_runV (As := [.int v_238, .int v_239]) (rest := [.int v_236]) C mL_116 (kX12_book N h_235 a2 v_238 v_239) q_242 (Nat.le_of_ble_eq_true rfl) ⟨Nat.le_of_ble_eq_true rfl, Nat.le_of_ble_eq_true rfl⟩ dL_law_980 rfl rfl (Nat.le_of_ble_eq_true rfl)) rfl (fun v_241 h_240 => ?_)
        refine z_icmpeq C 1395 dL_law_983 rfl ?_ ?_
        · refine z_iinc (v := x3 + (6 : Int32)) C 3 dL_law_1395 [(3, .int (x3 + (6 : Int32))), (0, .ref b), (1, .ref a1), (2, .ref a2)] rfl rfl (by decide) rfl ?_
          refine z_goto C 18 dL_law_1398 rfl ?_
          exact z_lv _ [1, 2, 3, 0] rfl (hr18 _ a1 a2 (x3 + (6 : Int32)))
        · refine z_iconst (v := (0 : Int32)) C dL_law_986 rfl ?_
          exact z_zreturn C ⟨rfl, rfl⟩ dL_law_987
      refine z_ite (fun q_243 => ?_) (fun q_243 => ?_)
      · subst q_243
        refine z_table C 988 dL_law_33 (by decide) (by decide) rfl rfl ?_
        refine z_aload_n C 1 dL_law_988 rfl ?_
        refine z_bind (fun _ q_246 => ?_)
        refine z_calli (z_runV (As := []) (rest := []) C mL_117 (kX11_looked N h a1) q_246 (Nat.le_of_ble_eq_true rfl) ⟨Nat.le_of_ble_eq_true rfl, Nat.le_of_ble_eq_true rfl⟩ dL_law_989 rfl rfl (Nat.le_of_ble_eq_true rfl)) rfl (fun v_245 h_244 => ?_)
        refine z_aload_n C 2 dL_law_992 rfl ?_
        refine z_bind (fun _ q_249 => ?_)
        refine z_calli (z_runV (As := []) (rest := [.int v_245]) C mL_120 (kX12_looked N h_244 a2) q_249 (Nat.le_of_ble_eq_true rfl) ⟨Nat.le_of_ble_eq_true rfl, Nat.le_of_ble_eq_true rfl⟩ dL_law_993 rfl rfl (Nat.le_of_ble_eq_true rfl)) rfl (fun v_248 h_247 => ?_)
        refine z_icmpeq C 1395 dL_law_996 rfl ?_ ?_
        · refine z_iinc (v := x3 + (6 : Int32)) C 3 dL_law_1395 [(3, .int (x3 + (6 : Int32))), (0, .ref b), (1, .ref a1), (2, .ref a2)] rfl rfl (by decide) rfl ?_
          refine z_goto C 18 dL_law_1398 rfl ?_
          exact z_lv _ [1, 2, 3, 0] rfl (hr18 _ a1 a2 (x3 + (6 : Int32)))
        · refine z_iconst (v := (0 : Int32)) C dL_law_999 rfl ?_
          exact z_zreturn C ⟨rfl, rfl⟩ dL_law_1000
      refine z_ite (fun q_250 => ?_) (fun q_250 => ?_)
      · subst q_250
        refine z_table C 1001 dL_law_33 (by decide) (by decide) rfl rfl ?_
        refine z_aload_n C 1 dL_law_1001 rfl ?_
        refine z_aload_n C 0 dL_law_1002 rfl ?_
        refine z_iload_n C 3 dL_law_1003 rfl ?_
        refine z_iconst (v := (1 : Int32)) C dL_law_1004 rfl ?_
        refine z_iadd C dL_law_1005 ?_
        refine z_sld C hX dL_law_1006 (fun v_251 => ?_)
        refine z_aload_n C 0 dL_law_1007 rfl ?_
        refine z_iload_n C 3 dL_law_1008 rfl ?_
        refine z_iconst (v := (2 : Int32)) C dL_law_1009 rfl ?_
        refine z_iadd C dL_law_1010 ?_
        refine z_sld C hX dL_law_1011 (fun v_252 => ?_)
        refine z_bind (fun _ q_255 => ?_)
        refine z_calli (z_runV (As := [.int v_251, .int v_252]) (rest := []) C mL_121 (kX11_judge N h a1 v_251 v_252) q_255 (Nat.le_of_ble_eq_true rfl) ⟨Nat.le_of_ble_eq_true rfl, Nat.le_of_ble_eq_true rfl⟩ dL_law_1012 rfl rfl (Nat.le_of_ble_eq_true rfl)) rfl (fun v_254 h_253 => ?_)
        refine z_aload_n C 2 dL_law_1015 rfl ?_
        refine z_aload_n C 0 dL_law_1016 rfl ?_
        refine z_iload_n C 3 dL_law_1017 rfl ?_
        refine z_iconst (v := (1 : Int32)) C dL_law_1018 rfl ?_
        refine z_iadd C dL_law_1019 ?_
        refine z_sld C hX dL_law_1020 (fun v_256 => ?_)
        refine z_aload_n C 0 dL_law_1021 rfl ?_
        refine z_iload_n C 3 dL_law_1022 rfl ?_
        refine z_iconst (v := (2 : Int32)) C dL_law_1023 rfl ?_
        refine z_iadd C dL_law_1024 ?_
        refine z_sld C hX dL_law_1025 (fun v_257 => ?_)
        refine z_bind (fun _ q_260 => ?_)
        refine z_calli (z_runV (As := [.int v_256, .int v_257]) (rest := [.int v_254]) C mL_124 (kX12_judge N h_253 a2 v_256 v_257) q_260 (Nat.le_of_ble_eq_true rfl) ⟨Nat.le_of_ble_eq_true rfl, Nat.le_of_ble_eq_true rfl⟩ dL_law_1026 rfl rfl (Nat.le_of_ble_eq_true rfl)) rfl (fun v_259 h_258 => ?_)
        refine z_icmpeq C 1395 dL_law_1029 rfl ?_ ?_
        · refine z_iinc (v := x3 + (6 : Int32)) C 3 dL_law_1395 [(3, .int (x3 + (6 : Int32))), (0, .ref b), (1, .ref a1), (2, .ref a2)] rfl rfl (by decide) rfl ?_
          refine z_goto C 18 dL_law_1398 rfl ?_
          exact z_lv _ [1, 2, 3, 0] rfl (hr18 _ a1 a2 (x3 + (6 : Int32)))
        · refine z_iconst (v := (0 : Int32)) C dL_law_1032 rfl ?_
          exact z_zreturn C ⟨rfl, rfl⟩ dL_law_1033
      refine z_ite (fun q_261 => ?_) (fun q_261 => ?_)
      · subst q_261
        refine z_table C 1034 dL_law_33 (by decide) (by decide) rfl rfl ?_
        refine z_aload_n C 1 dL_law_1034 rfl ?_
        refine z_bind (fun _ q_264 => ?_)
        refine z_calli (z_runV (As := []) (rest := []) C mL_125 (kX11_image N h a1) q_264 (Nat.le_of_ble_eq_true rfl) ⟨Nat.le_of_ble_eq_true rfl, Nat.le_of_ble_eq_true rfl⟩ dL_law_1035 rfl rfl (Nat.le_of_ble_eq_true rfl)) rfl (fun v_263 h_262 => ?_)
        refine z_aload_n C 2 dL_law_1038 rfl ?_
        refine z_bind (fun _ q_267 => ?_)
        refine z_calli (z_runV (As := []) (rest := [.int v_263]) C mL_128 (kX12_image N h_262 a2) q_267 (Nat.le_of_ble_eq_true rfl) ⟨Nat.le_of_ble_eq_true rfl, Nat.le_of_ble_eq_true rfl⟩ dL_law_1039 rfl rfl (Nat.le_of_ble_eq_true rfl)) rfl (fun v_266 h_265 => ?_)
        refine z_icmpeq C 1395 dL_law_1042 rfl ?_ ?_
        · refine z_iinc (v := x3 + (6 : Int32)) C 3 dL_law_1395 [(3, .int (x3 + (6 : Int32))), (0, .ref b), (1, .ref a1), (2, .ref a2)] rfl rfl (by decide) rfl ?_
          refine z_goto C 18 dL_law_1398 rfl ?_
          exact z_lv _ [1, 2, 3, 0] rfl (hr18 _ a1 a2 (x3 + (6 : Int32)))
        · refine z_iconst (v := (0 : Int32)) C dL_law_1045 rfl ?_
          exact z_zreturn C ⟨rfl, rfl⟩ dL_law_1046
      refine z_ite (fun q_268 => ?_) (fun q_268 => ?_)
      · subst q_268
        refine z_table C 1047 dL_law_33 (by decide) (by decide) rfl rfl ?_
        refine z_aload_n C 1 dL_law_1047 rfl ?_
        refine z_bind (fun _ q_271 => ?_)
        refine z_calli (z_runV (As := []) (rest := []) C mL_129 (kX11_undo N h a1) q_271 (Nat.le_of_ble_eq_true rfl) ⟨Nat.le_of_ble_eq_true rfl, Nat.le_of_ble_eq_true rfl⟩ dL_law_1048 rfl rfl (Nat.le_of_ble_eq_true rfl)) rfl (fun v_270 h_269 => ?_)
        refine z_aload_n C 2 dL_law_1051 rfl ?_
        refine z_bind (fun _ q_274 => ?_)
        refine z_calli (z_runV (As := []) (rest := [.int v_270]) C mL_132 (kX12_undo N h_269 a2) q_274 (Nat.le_of_ble_eq_true rfl) ⟨Nat.le_of_ble_eq_true rfl, Nat.le_of_ble_eq_true rfl⟩ dL_law_1052 rfl rfl (Nat.le_of_ble_eq_true rfl)) rfl (fun v_273 h_272 => ?_)
        refine z_icmpeq C 1395 dL_law_1055 rfl ?_ ?_
        · refine z_iinc (v := x3 + (6 : Int32)) C 3 dL_law_1395 [(3, .int (x3 + (6 : Int32))), (0, .ref b), (1, .ref a1), (2, .ref a2)] rfl rfl (by decide) rfl ?_
          refine z_goto C 18 dL_law_1398 rfl ?_
          exact z_lv _ [1, 2, 3, 0] rfl (hr18 _ a1 a2 (x3 + (6 : Int32)))
        · refine z_iconst (v := (0 : Int32)) C dL_law_1058 rfl ?_
          exact z_zreturn C ⟨rfl, rfl⟩ dL_law_1059
      refine z_ite (fun q_275 => ?_) (fun q_275 => ?_)
      · subst q_275
        refine z_table C 1060 dL_law_33 (by decide) (by decide) rfl rfl ?_
        refine z_aload_n C 1 dL_law_1060 rfl ?_
        refine z_aload_n C 0 dL_law_1061 rfl ?_
        refine z_iload_n C 3 dL_law_1062 rfl ?_
        refine z_iconst (v := (1 : Int32)) C dL_law_1063 rfl ?_
        refine z_iadd C dL_law_1064 ?_
        refine z_sld C hX dL_law_1065 (fun v_276 => ?_)
        refine z_aload_n C 0 dL_law_1066 rfl ?_
        refine z_iload_n C 3 dL_law_1067 rfl ?_
        refine z_iconst (v := (2 : Int32)) C dL_law_1068 rfl ?_
        refine z_iadd C dL_law_1069 ?_
        refine z_sld C hX dL_law_1070 (fun v_277 => ?_)
        refine z_aload_n C 0 dL_law_1071 rfl ?_
        refine z_iload_n C 3 dL_law_1072 rfl ?_
        refine z_iconst (v := (3 : Int32)) C dL_law_1073 rfl ?_
        refine z_iadd C dL_law_1074 ?_
        refine z_sld C hX dL_law_1075 (fun v_278 => ?_)
        refine z_bind (fun _ q_281 => ?_)
        refine z_calli (z_runV (As := [.int v_276, .int v_277, .int v_278]) (rest := []) C mL_133 (kX11_act N h a1 v_276 v_277 v_278) q_281 (Nat.le_of_ble_eq_true rfl) ⟨Nat.le_of_ble_eq_true rfl, Nat.le_of_ble_eq_true rfl⟩ dL_law_1076 rfl rfl (Nat.le_of_ble_eq_true rfl)) rfl (fun v_280 h_279 => ?_)
        refine z_aload_n C 2 dL_law_1079 rfl ?_
        refine z_aload_n C 0 dL_law_1080 rfl ?_
        refine z_iload_n C 3 dL_law_1081 rfl ?_
        refine z_iconst (v := (1 : Int32)) C dL_law_1082 rfl ?_
        refine z_iadd C dL_law_1083 ?_
        refine z_sld C hX dL_law_1084 (fun v_282 => ?_)
        refine z_aload_n C 0 dL_law_1085 rfl ?_
        refine z_iload_n C 3 dL_law_1086 rfl ?_
        refine z_iconst (v := (2 : Int32)) C dL_law_1087 rfl ?_
        refine z_iadd C dL_law_1088 ?_
        refine z_sld C hX dL_law_1089 (fun v_283 => ?_)
        refine z_aload_n C 0 dL_law_1090 rfl ?_
        refine z_iload_n C 3 dL_law_1091 rfl ?_
        refine z_iconst (v := (3 : Int32)) C dL_law_1092 rfl ?_
        refine z_iadd C dL_law_1093 ?_
        refine z_sld C hX dL_law_1094 (fun v_284 => ?_)
        refine z_bind (fun _ q_287 => ?_)
        refine z_calli (z_runV (As := [.int v_282, .int v_283, .int v_284]) (rest := [.int v_280]) C mL_136 (kX12_act N h_279 a2 v_282 v_283 v_284) q_287 (Nat.le_of_ble_eq_true rfl) ⟨Nat.le_of_ble_eq_true rfl, Nat.le_of_ble_eq_true rfl⟩ dL_law_1095 rfl rfl (Nat.le_of_ble_eq_true rfl)) rfl (fun v_286 h_285 => ?_)
        refine z_icmpeq C 1395 dL_law_1098 rfl ?_ ?_
        · refine z_iinc (v := x3 + (6 : Int32)) C 3 dL_law_1395 [(3, .int (x3 + (6 : Int32))), (0, .ref b), (1, .ref a1), (2, .ref a2)] rfl rfl (by decide) rfl ?_
          refine z_goto C 18 dL_law_1398 rfl ?_
          exact z_lv _ [1, 2, 3, 0] rfl (hr18 _ a1 a2 (x3 + (6 : Int32)))
        · refine z_iconst (v := (0 : Int32)) C dL_law_1101 rfl ?_
          exact z_zreturn C ⟨rfl, rfl⟩ dL_law_1102
      refine z_ite (fun q_288 => ?_) (fun q_288 => ?_)
      · subst q_288
        refine z_table C 1103 dL_law_33 (by decide) (by decide) rfl rfl ?_
        refine z_aload_n C 1 dL_law_1103 rfl ?_
        refine z_aload_n C 0 dL_law_1104 rfl ?_
        refine z_iload_n C 3 dL_law_1105 rfl ?_
        refine z_iconst (v := (1 : Int32)) C dL_law_1106 rfl ?_
        refine z_iadd C dL_law_1107 ?_
        refine z_sld C hX dL_law_1108 (fun v_289 => ?_)
        refine z_bind (fun _ q_292 => ?_)
        refine z_calli (z_runV (As := [.int v_289]) (rest := []) C mL_137 (kX11_trace N h a1 v_289) q_292 (Nat.le_of_ble_eq_true rfl) ⟨Nat.le_of_ble_eq_true rfl, Nat.le_of_ble_eq_true rfl⟩ dL_law_1109 rfl rfl (Nat.le_of_ble_eq_true rfl)) rfl (fun v_291 h_290 => ?_)
        refine z_aload_n C 2 dL_law_1112 rfl ?_
        refine z_aload_n C 0 dL_law_1113 rfl ?_
        refine z_iload_n C 3 dL_law_1114 rfl ?_
        refine z_iconst (v := (1 : Int32)) C dL_law_1115 rfl ?_
        refine z_iadd C dL_law_1116 ?_
        refine z_sld C hX dL_law_1117 (fun v_293 => ?_)
        refine z_bind (fun _ q_296 => ?_)
        refine z_calli (z_runV (As := [.int v_293]) (rest := [.int v_291]) C mL_140 (kX12_trace N h_290 a2 v_293) q_296 (Nat.le_of_ble_eq_true rfl) ⟨Nat.le_of_ble_eq_true rfl, Nat.le_of_ble_eq_true rfl⟩ dL_law_1118 rfl rfl (Nat.le_of_ble_eq_true rfl)) rfl (fun v_295 h_294 => ?_)
        refine z_icmpeq C 1395 dL_law_1121 rfl ?_ ?_
        · refine z_iinc (v := x3 + (6 : Int32)) C 3 dL_law_1395 [(3, .int (x3 + (6 : Int32))), (0, .ref b), (1, .ref a1), (2, .ref a2)] rfl rfl (by decide) rfl ?_
          refine z_goto C 18 dL_law_1398 rfl ?_
          exact z_lv _ [1, 2, 3, 0] rfl (hr18 _ a1 a2 (x3 + (6 : Int32)))
        · refine z_iconst (v := (0 : Int32)) C dL_law_1124 rfl ?_
          exact z_zreturn C ⟨rfl, rfl⟩ dL_law_1125
      refine z_ite (fun q_297 => ?_) (fun q_297 => ?_)
      · subst q_297
        refine z_table C 1126 dL_law_33 (by decide) (by decide) rfl rfl ?_
        refine z_aload_n C 1 dL_law_1126 rfl ?_
        refine z_aload_n C 0 dL_law_1127 rfl ?_
        refine z_iload_n C 3 dL_law_1128 rfl ?_
        refine z_iconst (v := (1 : Int32)) C dL_law_1129 rfl ?_
        refine z_iadd C dL_law_1130 ?_
        refine z_sld C hX dL_law_1131 (fun v_298 => ?_)
        refine z_aload_n C 0 dL_law_1132 rfl ?_
        refine z_iload_n C 3 dL_law_1133 rfl ?_
        refine z_iconst (v := (2 : Int32)) C dL_law_1134 rfl ?_
        refine z_iadd C dL_law_1135 ?_
        refine z_sld C hX dL_law_1136 (fun v_299 => ?_)
        refine z_bind (fun _ q_302 => ?_)
        refine z_calli (z_runV (As := [.int v_298, .int v_299]) (rest := []) C mL_141 (kX11_taken N h a1 v_298 v_299) q_302 (Nat.le_of_ble_eq_true rfl) ⟨Nat.le_of_ble_eq_true rfl, Nat.le_of_ble_eq_true rfl⟩ dL_law_1137 rfl rfl (Nat.le_of_ble_eq_true rfl)) rfl (fun v_301 h_300 => ?_)
        refine z_aload_n C 2 dL_law_1140 rfl ?_
        refine z_aload_n C 0 dL_law_1141 rfl ?_
        refine z_iload_n C 3 dL_law_1142 rfl ?_
        refine z_iconst (v := (1 : Int32)) C dL_law_1143 rfl ?_
        refine z_iadd C dL_law_1144 ?_
        refine z_sld C hX dL_law_1145 (fun v_303 => ?_)
        refine z_aload_n C 0 dL_law_1146 rfl ?_
        refine z_iload_n C 3 dL_law_1147 rfl ?_
        refine z_iconst (v := (2 : Int32)) C dL_law_1148 rfl ?_
        refine z_iadd C dL_law_1149 ?_
        refine z_sld C hX dL_law_1150 (fun v_304 => ?_)
        refine z_bind (fun _ q_307 => ?_)
        refine z_calli (z_runV (As := [.int v_303, .int v_304]) (rest := [.int v_301]) C mL_144 (kX12_taken N h_300 a2 v_303 v_304) q_307 (Nat.le_of_ble_eq_true rfl) ⟨Nat.le_of_ble_eq_true rfl, Nat.le_of_ble_eq_true rfl⟩ dL_law_1151 rfl rfl (Nat.le_of_ble_eq_true rfl)) rfl (fun v_306 h_305 => ?_)
        refine z_icmpeq C 1395 dL_law_1154 rfl ?_ ?_
        · refine z_iinc (v := x3 + (6 : Int32)) C 3 dL_law_1395 [(3, .int (x3 + (6 : Int32))), (0, .ref b), (1, .ref a1), (2, .ref a2)] rfl rfl (by decide) rfl ?_
          refine z_goto C 18 dL_law_1398 rfl ?_
          exact z_lv _ [1, 2, 3, 0] rfl (hr18 _ a1 a2 (x3 + (6 : Int32)))
        · refine z_iconst (v := (0 : Int32)) C dL_law_1157 rfl ?_
          exact z_zreturn C ⟨rfl, rfl⟩ dL_law_1158
      refine z_ite (fun q_308 => ?_) (fun q_308 => ?_)
      · subst q_308
        refine z_table C 1159 dL_law_33 (by decide) (by decide) rfl rfl ?_
        refine z_aload_n C 1 dL_law_1159 rfl ?_
        refine z_aload_n C 0 dL_law_1160 rfl ?_
        refine z_iload_n C 3 dL_law_1161 rfl ?_
        refine z_iconst (v := (1 : Int32)) C dL_law_1162 rfl ?_
        refine z_iadd C dL_law_1163 ?_
        refine z_sld C hX dL_law_1164 (fun v_309 => ?_)
        refine z_bind (fun _ q_312 => ?_)
        refine z_calli (z_runV (As := [.int v_309]) (rest := []) C mL_145 (kX11_count N h a1 v_309) q_312 (Nat.le_of_ble_eq_true rfl) ⟨Nat.le_of_ble_eq_true rfl, Nat.le_of_ble_eq_true rfl⟩ dL_law_1165 rfl rfl (Nat.le_of_ble_eq_true rfl)) rfl (fun v_311 h_310 => ?_)
        refine z_aload_n C 2 dL_law_1168 rfl ?_
        refine z_aload_n C 0 dL_law_1169 rfl ?_
        refine z_iload_n C 3 dL_law_1170 rfl ?_
        refine z_iconst (v := (1 : Int32)) C dL_law_1171 rfl ?_
        refine z_iadd C dL_law_1172 ?_
        refine z_sld C hX dL_law_1173 (fun v_313 => ?_)
        refine z_bind (fun _ q_316 => ?_)
        refine z_calli (z_runV (As := [.int v_313]) (rest := [.int v_311]) C mL_148 (kX12_count N h_310 a2 v_313) q_316 (Nat.le_of_ble_eq_true rfl) ⟨Nat.le_of_ble_eq_true rfl, Nat.le_of_ble_eq_true rfl⟩ dL_law_1174 rfl rfl (Nat.le_of_ble_eq_true rfl)) rfl (fun v_315 h_314 => ?_)
        refine z_icmpeq C 1395 dL_law_1177 rfl ?_ ?_
        · refine z_iinc (v := x3 + (6 : Int32)) C 3 dL_law_1395 [(3, .int (x3 + (6 : Int32))), (0, .ref b), (1, .ref a1), (2, .ref a2)] rfl rfl (by decide) rfl ?_
          refine z_goto C 18 dL_law_1398 rfl ?_
          exact z_lv _ [1, 2, 3, 0] rfl (hr18 _ a1 a2 (x3 + (6 : Int32)))
        · refine z_iconst (v := (0 : Int32)) C dL_law_1180 rfl ?_
          exact z_zreturn C ⟨rfl, rfl⟩ dL_law_1181
      refine z_ite (fun q_317 => ?_) (fun q_317 => ?_)
      · subst q_317
        refine z_table C 1182 dL_law_33 (by decide) (by decide) rfl rfl ?_
        refine z_aload_n C 1 dL_law_1182 rfl ?_
        refine z_aload_n C 0 dL_law_1183 rfl ?_
        refine z_iload_n C 3 dL_law_1184 rfl ?_
        refine z_iconst (v := (1 : Int32)) C dL_law_1185 rfl ?_
        refine z_iadd C dL_law_1186 ?_
        refine z_sld C hX dL_law_1187 (fun v_318 => ?_)
        refine z_aload_n C 0 dL_law_1188 rfl ?_
        refine z_iload_n C 3 dL_law_1189 rfl ?_
        refine z_iconst (v := (2 : Int32)) C dL_law_1190 rfl ?_
        refine z_iadd C dL_law_1191 ?_
        refine z_sld C hX dL_law_1192 (fun v_319 => ?_)
        refine z_aload_n C 0 dL_law_1193 rfl ?_
        refine z_iload_n C 3 dL_law_1194 rfl ?_
        refine z_iconst (v := (3 : Int32)) C dL_law_1195 rfl ?_
        refine z_iadd C dL_law_1196 ?_
        refine z_sld C hX dL_law_1197 (fun v_320 => ?_)
        refine z_bind (fun _ q_323 => ?_)
        refine z_calli (z_runV (As := [.int v_318, .int v_319, .int v_320]) (rest := []) C mL_149 (kX11_tape N h a1 v_318 v_319 v_320) q_323 (Nat.le_of_ble_eq_true rfl) ⟨Nat.le_of_ble_eq_true rfl, Nat.le_of_ble_eq_true rfl⟩ dL_law_1198 rfl rfl (Nat.le_of_ble_eq_true rfl)) rfl (fun v_322 h_321 => ?_)
        refine z_aload_n C 2 dL_law_1201 rfl ?_
        refine z_aload_n C 0 dL_law_1202 rfl ?_
        refine z_iload_n C 3 dL_law_1203 rfl ?_
        refine z_iconst (v := (1 : Int32)) C dL_law_1204 rfl ?_
        refine z_iadd C dL_law_1205 ?_
        refine z_sld C hX dL_law_1206 (fun v_324 => ?_)
        refine z_aload_n C 0 dL_law_1207 rfl ?_
        refine z_iload_n C 3 dL_law_1208 rfl ?_
        refine z_iconst (v := (2 : Int32)) C dL_law_1209 rfl ?_
        refine z_iadd C dL_law_1210 ?_
        refine z_sld C hX dL_law_1211 (fun v_325 => ?_)
        refine z_aload_n C 0 dL_law_1212 rfl ?_
        refine z_iload_n C 3 dL_law_1213 rfl ?_
        refine z_iconst (v := (3 : Int32)) C dL_law_1214 rfl ?_
        refine z_iadd C dL_law_1215 ?_
        refine z_sld C hX dL_law_1216 (fun v_326 => ?_)
        refine z_bind (fun _ q_329 => ?_)
        refine z_calli (z_runV (As := [.int v_324, .int v_325, .int v_326]) (rest := [.int v_322]) C mL_152 (kX12_tape N h_321 a2 v_324 v_325 v_326) q_329 (Nat.le_of_ble_eq_true rfl) ⟨Nat.le_of_ble_eq_true rfl, Nat.le_of_ble_eq_true rfl⟩ dL_law_1217 rfl rfl (Nat.le_of_ble_eq_true rfl)) rfl (fun v_328 h_327 => ?_)
        refine z_icmpeq C 1395 dL_law_1220 rfl ?_ ?_
        · refine z_iinc (v := x3 + (6 : Int32)) C 3 dL_law_1395 [(3, .int (x3 + (6 : Int32))), (0, .ref b), (1, .ref a1), (2, .ref a2)] rfl rfl (by decide) rfl ?_
          refine z_goto C 18 dL_law_1398 rfl ?_
          exact z_lv _ [1, 2, 3, 0] rfl (hr18 _ a1 a2 (x3 + (6 : Int32)))
        · refine z_iconst (v := (0 : Int32)) C dL_law_1223 rfl ?_
          exact z_zreturn C ⟨rfl, rfl⟩ dL_law_1224
      refine z_ite (fun q_330 => ?_) (fun q_330 => ?_)
      · subst q_330
        refine z_table C 1225 dL_law_33 (by decide) (by decide) rfl rfl ?_
        refine z_aload_n C 1 dL_law_1225 rfl ?_
        refine z_aload_n C 0 dL_law_1226 rfl ?_
        refine z_iload_n C 3 dL_law_1227 rfl ?_
        refine z_iconst (v := (1 : Int32)) C dL_law_1228 rfl ?_
        refine z_iadd C dL_law_1229 ?_
        refine z_sld C hX dL_law_1230 (fun v_331 => ?_)
        refine z_aload_n C 0 dL_law_1231 rfl ?_
        refine z_iload_n C 3 dL_law_1232 rfl ?_
        refine z_iconst (v := (2 : Int32)) C dL_law_1233 rfl ?_
        refine z_iadd C dL_law_1234 ?_
        refine z_sld C hX dL_law_1235 (fun v_332 => ?_)
        refine z_aload_n C 0 dL_law_1236 rfl ?_
        refine z_iload_n C 3 dL_law_1237 rfl ?_
        refine z_iconst (v := (3 : Int32)) C dL_law_1238 rfl ?_
        refine z_iadd C dL_law_1239 ?_
        refine z_sld C hX dL_law_1240 (fun v_333 => ?_)
        refine z_i2l C dL_law_1241 ?_
        refine z_bipush (v := (32 : Int32)) C dL_law_1242 rfl ?_
        refine z_lshl C dL_law_1244 ?_
        refine z_aload_n C 0 dL_law_1245 rfl ?_
        refine z_iload_n C 3 dL_law_1246 rfl ?_
        refine z_iconst (v := (4 : Int32)) C dL_law_1247 rfl ?_
        refine z_iadd C dL_law_1248 ?_
        refine z_sld C hX dL_law_1249 (fun v_334 => ?_)
        refine z_i2l C dL_law_1250 ?_
        refine z_ldc2_w (v := (4294967295 : Int64)) C dL_law_1251 wLc ?_
        refine z_land C dL_law_1254 ?_
        refine z_lor C dL_law_1255 ?_
        refine z_bind (fun _ q_337 => ?_)
        refine z_calli (z_runV (As := [.int v_331, .int v_332, .long (((v_333.toInt64) <<< ((32 : Int32).toInt64 &&& 63)) ||| ((v_334.toInt64) &&& (4294967295 : Int64)))]) (rest := []) C mL_155 (kX11_item N h a1 v_331 v_332 (((v_333.toInt64) <<< ((32 : Int32).toInt64 &&& 63)) ||| ((v_334.toInt64) &&& (4294967295 : Int64)))) q_337 (Nat.le_of_ble_eq_true rfl) ⟨Nat.le_of_ble_eq_true rfl, Nat.le_of_ble_eq_true rfl⟩ dL_law_1256 rfl rfl (Nat.le_of_ble_eq_true rfl)) rfl (fun v_336 h_335 => ?_)
        refine z_aload_n C 2 dL_law_1259 rfl ?_
        refine z_aload_n C 0 dL_law_1260 rfl ?_
        refine z_iload_n C 3 dL_law_1261 rfl ?_
        refine z_iconst (v := (1 : Int32)) C dL_law_1262 rfl ?_
        refine z_iadd C dL_law_1263 ?_
        refine z_sld C hX dL_law_1264 (fun v_338 => ?_)
        refine z_aload_n C 0 dL_law_1265 rfl ?_
        refine z_iload_n C 3 dL_law_1266 rfl ?_
        refine z_iconst (v := (2 : Int32)) C dL_law_1267 rfl ?_
        refine z_iadd C dL_law_1268 ?_
        refine z_sld C hX dL_law_1269 (fun v_339 => ?_)
        refine z_aload_n C 0 dL_law_1270 rfl ?_
        refine z_iload_n C 3 dL_law_1271 rfl ?_
        refine z_iconst (v := (3 : Int32)) C dL_law_1272 rfl ?_
        refine z_iadd C dL_law_1273 ?_
        refine z_sld C hX dL_law_1274 (fun v_340 => ?_)
        refine z_i2l C dL_law_1275 ?_
        refine z_bipush (v := (32 : Int32)) C dL_law_1276 rfl ?_
        refine z_lshl C dL_law_1278 ?_
        refine z_aload_n C 0 dL_law_1279 rfl ?_
        refine z_iload_n C 3 dL_law_1280 rfl ?_
        refine z_iconst (v := (4 : Int32)) C dL_law_1281 rfl ?_
        refine z_iadd C dL_law_1282 ?_
        refine z_sld C hX dL_law_1283 (fun v_341 => ?_)
        refine z_i2l C dL_law_1284 ?_
        refine z_ldc2_w (v := (4294967295 : Int64)) C dL_law_1285 wLc ?_
        refine z_land C dL_law_1288 ?_
        refine z_lor C dL_law_1289 ?_
        refine z_bind (fun _ q_344 => ?_)
        refine z_calli (z_runV (As := [.int v_338, .int v_339, .long (((v_340.toInt64) <<< ((32 : Int32).toInt64 &&& 63)) ||| ((v_341.toInt64) &&& (4294967295 : Int64)))]) (rest := [.int v_336]) C mL_159 (kX12_item N h_335 a2 v_338 v_339 (((v_340.toInt64) <<< ((32 : Int32).toInt64 &&& 63)) ||| ((v_341.toInt64) &&& (4294967295 : Int64)))) q_344 (Nat.le_of_ble_eq_true rfl) ⟨Nat.le_of_ble_eq_true rfl, Nat.le_of_ble_eq_true rfl⟩ dL_law_1290 rfl rfl (Nat.le_of_ble_eq_true rfl)) rfl (fun v_343 h_342 => ?_)
        refine z_icmpeq C 1395 dL_law_1293 rfl ?_ ?_
        · refine z_iinc (v := x3 + (6 : Int32)) C 3 dL_law_1395 [(3, .int (x3 + (6 : Int32))), (0, .ref b), (1, .ref a1), (2, .ref a2)] rfl rfl (by decide) rfl ?_
          refine z_goto C 18 dL_law_1398 rfl ?_
          exact z_lv _ [1, 2, 3, 0] rfl (hr18 _ a1 a2 (x3 + (6 : Int32)))
        · refine z_iconst (v := (0 : Int32)) C dL_law_1296 rfl ?_
          exact z_zreturn C ⟨rfl, rfl⟩ dL_law_1297
      refine z_ite (fun q_345 => ?_) (fun q_345 => ?_)
      · subst q_345
        refine z_table C 1298 dL_law_33 (by decide) (by decide) rfl rfl ?_
        refine z_aload_n C 1 dL_law_1298 rfl ?_
        refine z_aload_n C 0 dL_law_1299 rfl ?_
        refine z_iload_n C 3 dL_law_1300 rfl ?_
        refine z_iconst (v := (1 : Int32)) C dL_law_1301 rfl ?_
        refine z_iadd C dL_law_1302 ?_
        refine z_sld C hX dL_law_1303 (fun v_346 => ?_)
        refine z_aload_n C 0 dL_law_1304 rfl ?_
        refine z_iload_n C 3 dL_law_1305 rfl ?_
        refine z_iconst (v := (2 : Int32)) C dL_law_1306 rfl ?_
        refine z_iadd C dL_law_1307 ?_
        refine z_sld C hX dL_law_1308 (fun v_347 => ?_)
        refine z_bind (fun _ q_350 => ?_)
        refine z_calll (z_runV (As := [.int v_346, .int v_347]) (rest := []) C mL_160 (kX11_read N h a1 v_346 v_347) q_350 (Nat.le_of_ble_eq_true rfl) ⟨Nat.le_of_ble_eq_true rfl, Nat.le_of_ble_eq_true rfl⟩ dL_law_1309 rfl rfl (Nat.le_of_ble_eq_true rfl)) rfl (fun v_349 h_348 => ?_)
        refine z_aload_n C 2 dL_law_1312 rfl ?_
        refine z_aload_n C 0 dL_law_1313 rfl ?_
        refine z_iload_n C 3 dL_law_1314 rfl ?_
        refine z_iconst (v := (1 : Int32)) C dL_law_1315 rfl ?_
        refine z_iadd C dL_law_1316 ?_
        refine z_sld C hX dL_law_1317 (fun v_351 => ?_)
        refine z_aload_n C 0 dL_law_1318 rfl ?_
        refine z_iload_n C 3 dL_law_1319 rfl ?_
        refine z_iconst (v := (2 : Int32)) C dL_law_1320 rfl ?_
        refine z_iadd C dL_law_1321 ?_
        refine z_sld C hX dL_law_1322 (fun v_352 => ?_)
        refine z_bind (fun _ q_355 => ?_)
        refine z_calll (z_runV (As := [.int v_351, .int v_352]) (rest := [.long v_349]) C mL_163 (kX12_read N h_348 a2 v_351 v_352) q_355 (Nat.le_of_ble_eq_true rfl) ⟨Nat.le_of_ble_eq_true rfl, Nat.le_of_ble_eq_true rfl⟩ dL_law_1323 rfl rfl (Nat.le_of_ble_eq_true rfl)) rfl (fun v_354 h_353 => ?_)
        refine z_lcmp C dL_law_1326 ?_
        refine z_ifeq C 1395 dL_law_1327 rfl ?_ ?_
        · refine z_iinc (v := x3 + (6 : Int32)) C 3 dL_law_1395 [(3, .int (x3 + (6 : Int32))), (0, .ref b), (1, .ref a1), (2, .ref a2)] rfl rfl (by decide) rfl ?_
          refine z_goto C 18 dL_law_1398 rfl ?_
          exact z_lv _ [1, 2, 3, 0] rfl (hr18 _ a1 a2 (x3 + (6 : Int32)))
        · refine z_iconst (v := (0 : Int32)) C dL_law_1330 rfl ?_
          exact z_zreturn C ⟨rfl, rfl⟩ dL_law_1331
      refine z_ite (fun q_356 => ?_) (fun q_356 => ?_)
      · subst q_356
        refine z_table C 1332 dL_law_33 (by decide) (by decide) rfl rfl ?_
        refine z_aload_n C 1 dL_law_1332 rfl ?_
        refine z_aload_n C 0 dL_law_1333 rfl ?_
        refine z_iload_n C 3 dL_law_1334 rfl ?_
        refine z_iconst (v := (1 : Int32)) C dL_law_1335 rfl ?_
        refine z_iadd C dL_law_1336 ?_
        refine z_sld C hX dL_law_1337 (fun v_357 => ?_)
        refine z_aload_n C 0 dL_law_1338 rfl ?_
        refine z_iload_n C 3 dL_law_1339 rfl ?_
        refine z_iconst (v := (2 : Int32)) C dL_law_1340 rfl ?_
        refine z_iadd C dL_law_1341 ?_
        refine z_sld C hX dL_law_1342 (fun v_358 => ?_)
        refine z_aload_n C 0 dL_law_1343 rfl ?_
        refine z_iload_n C 3 dL_law_1344 rfl ?_
        refine z_iconst (v := (3 : Int32)) C dL_law_1345 rfl ?_
        refine z_iadd C dL_law_1346 ?_
        refine z_sld C hX dL_law_1347 (fun v_359 => ?_)
        refine z_aload_n C 0 dL_law_1348 rfl ?_
        refine z_iload_n C 3 dL_law_1349 rfl ?_
        refine z_iconst (v := (4 : Int32)) C dL_law_1350 rfl ?_
        refine z_iadd C dL_law_1351 ?_
        refine z_sld C hX dL_law_1352 (fun v_360 => ?_)
        refine z_aload_n C 0 dL_law_1353 rfl ?_
        refine z_iload_n C 3 dL_law_1354 rfl ?_
        refine z_iconst (v := (5 : Int32)) C dL_law_1355 rfl ?_
        refine z_iadd C dL_law_1356 ?_
        refine z_sld C hX dL_law_1357 (fun v_361 => ?_)
        refine z_bind (fun _ q_364 => ?_)
        refine z_calli (z_runV (As := [.int v_357, .int v_358, .int v_359, .int v_360, .int v_361]) (rest := []) C mL_164 (kX11_shift N h a1 v_357 v_358 v_359 v_360 v_361) q_364 (Nat.le_of_ble_eq_true rfl) ⟨Nat.le_of_ble_eq_true rfl, Nat.le_of_ble_eq_true rfl⟩ dL_law_1358 rfl rfl (Nat.le_of_ble_eq_true rfl)) rfl (fun v_363 h_362 => ?_)
        refine z_aload_n C 2 dL_law_1361 rfl ?_
        refine z_aload_n C 0 dL_law_1362 rfl ?_
        refine z_iload_n C 3 dL_law_1363 rfl ?_
        refine z_iconst (v := (1 : Int32)) C dL_law_1364 rfl ?_
        refine z_iadd C dL_law_1365 ?_
        refine z_sld C hX dL_law_1366 (fun v_365 => ?_)
        refine z_aload_n C 0 dL_law_1367 rfl ?_
        refine z_iload_n C 3 dL_law_1368 rfl ?_
        refine z_iconst (v := (2 : Int32)) C dL_law_1369 rfl ?_
        refine z_iadd C dL_law_1370 ?_
        refine z_sld C hX dL_law_1371 (fun v_366 => ?_)
        refine z_aload_n C 0 dL_law_1372 rfl ?_
        refine z_iload_n C 3 dL_law_1373 rfl ?_
        refine z_iconst (v := (3 : Int32)) C dL_law_1374 rfl ?_
        refine z_iadd C dL_law_1375 ?_
        refine z_sld C hX dL_law_1376 (fun v_367 => ?_)
        refine z_aload_n C 0 dL_law_1377 rfl ?_
        refine z_iload_n C 3 dL_law_1378 rfl ?_
        refine z_iconst (v := (4 : Int32)) C dL_law_1379 rfl ?_
        refine z_iadd C dL_law_1380 ?_
        refine z_sld C hX dL_law_1381 (fun v_368 => ?_)
        refine z_aload_n C 0 dL_law_1382 rfl ?_
        refine z_iload_n C 3 dL_law_1383 rfl ?_
        refine z_iconst (v := (5 : Int32)) C dL_law_1384 rfl ?_
        refine z_iadd C dL_law_1385 ?_
        refine z_sld C hX dL_law_1386 (fun v_369 => ?_)
        refine z_bind (fun _ q_372 => ?_)
        refine z_calli (z_runV (As := [.int v_365, .int v_366, .int v_367, .int v_368, .int v_369]) (rest := [.int v_363]) C mL_168 (kX12_shift N h_362 a2 v_365 v_366 v_367 v_368 v_369) q_372 (Nat.le_of_ble_eq_true rfl) ⟨Nat.le_of_ble_eq_true rfl, Nat.le_of_ble_eq_true rfl⟩ dL_law_1387 rfl rfl (Nat.le_of_ble_eq_true rfl)) rfl (fun v_371 h_370 => ?_)
        refine z_icmpeq C 1395 dL_law_1390 rfl ?_ ?_
        · refine z_iinc (v := x3 + (6 : Int32)) C 3 dL_law_1395 [(3, .int (x3 + (6 : Int32))), (0, .ref b), (1, .ref a1), (2, .ref a2)] rfl rfl (by decide) rfl ?_
          refine z_goto C 18 dL_law_1398 rfl ?_
          exact z_lv _ [1, 2, 3, 0] rfl (hr18 _ a1 a2 (x3 + (6 : Int32)))
        · refine z_iconst (v := (0 : Int32)) C dL_law_1393 rfl ?_
          exact z_zreturn C ⟨rfl, rfl⟩ dL_law_1394
      refine z_tableO C 1395 dL_law_33 (by have eq_3 := lv_neT (a := 0) q_3 rfl; have eq_14 := lv_neT (a := 1) q_14 rfl; have eq_25 := lv_neT (a := 2) q_25 rfl; have eq_38 := lv_neT (a := 3) q_38 rfl; have eq_49 := lv_neT (a := 4) q_49 rfl; have eq_60 := lv_neT (a := 5) q_60 rfl; have eq_73 := lv_neT (a := 6) q_73 rfl; have eq_82 := lv_neT (a := 7) q_82 rfl; have eq_85 := lv_neT (a := 8) q_85 rfl; have eq_94 := lv_neT (a := 9) q_94 rfl; have eq_107 := lv_neT (a := 10) q_107 rfl; have eq_116 := lv_neT (a := 11) q_116 rfl; have eq_123 := lv_neT (a := 12) q_123 rfl; have eq_132 := lv_neT (a := 13) q_132 rfl; have eq_141 := lv_neT (a := 14) q_141 rfl; have eq_152 := lv_neT (a := 15) q_152 rfl; have eq_157 := lv_neT (a := 16) q_157 rfl; have eq_164 := lv_neT (a := 17) q_164 rfl; have eq_175 := lv_neT (a := 18) q_175 rfl; have eq_190 := lv_neT (a := 19) q_190 rfl; have eq_201 := lv_neT (a := 20) q_201 rfl; have eq_212 := lv_neT (a := 21) q_212 rfl; have eq_223 := lv_neT (a := 22) q_223 rfl; have eq_232 := lv_neT (a := 23) q_232 rfl; have eq_243 := lv_neT (a := 24) q_243 rfl; have eq_250 := lv_neT (a := 25) q_250 rfl; have eq_261 := lv_neT (a := 26) q_261 rfl; have eq_268 := lv_neT (a := 27) q_268 rfl; have eq_275 := lv_neT (a := 28) q_275 rfl; have eq_288 := lv_neT (a := 29) q_288 rfl; have eq_297 := lv_neT (a := 30) q_297 rfl; have eq_308 := lv_neT (a := 31) q_308 rfl; have eq_317 := lv_neT (a := 32) q_317 rfl; have eq_330 := lv_neT (a := 33) q_330 rfl; have eq_345 := lv_neT (a := 34) q_345 rfl; have eq_356 := lv_neT (a := 35) q_356 rfl; omega) rfl ?_
      refine z_iinc (v := x3 + (6 : Int32)) C 3 dL_law_1395 [(3, .int (x3 + (6 : Int32))), (0, .ref b), (1, .ref a1), (2, .ref a2)] rfl rfl (by decide) rfl ?_
      refine z_goto C 18 dL_law_1398 rfl ?_
      exact z_lv _ [1, 2, 3, 0] rfl (hr18 _ a1 a2 (x3 + (6 : Int32)))
def fL_law (L : Nat) (xs : Nat → Int32) (N : Nat) (h : AH) : Option (Int32 × AH) :=
  znew h (.inr (11, [.null, .null, .int 0, .null, .null, .null, .int 0, .null, .int 0, .null, .null, .null, .null])) fun a1 h1 =>
  zcall (fX11_init N h1 a1) fun _ h2 =>
  znew h2 (.inr (12, [.null, .null, .null, .int 0, .null, .int 0, .null, .null, .int 0, .null, .int 0, .int 0, .int 0, .int 0, .int 0, .int 0, .null, .null, .null, .null, .null, .null, .null, .int 0, .null, .null, .null, .null])) fun a2 h3 =>
  zcall (fX12_init N h3 a2) fun _ h4 =>
  zfix (fun _ _ _ _ => none) (bL_law_18 L xs N) N h4 a1 a2 (0 : Int32)
set_option maxRecDepth 4000 in
theorem tL_law {X : zX} {g : zG} {nm : String} {b L : Nat} {xs : Nat → Int32} (hX : zXs X g b L xs) (C : zC X g (yLn nm) cL_law 4 34 145 3492 (some .boolean)) (N : Nat) (h : AH) : ZZ X g 4 (0, 0, 145, 3492) (fun v : Int32 => some (.int v)) (fL_law L xs N h) h 0 [(0, .ref b)] [] := by
  unfold fL_law
  refine z_new (u' := (1, 13, 145, 3492)) C nL_7 rfl ⟨Nat.le_of_ble_eq_true rfl, Nat.le_of_ble_eq_true rfl⟩ dL_law_0 (fun a1 h1 => ?_)
  refine z_dup C dL_law_3 rfl ?_
  refine z_callc (u' := (126, 1728, 145, 3492)) (z_runI (rest := [.ref a1]) C jL_9 (kX11_init N h1 a1) (Nat.le_of_ble_eq_true rfl) ⟨Nat.le_of_ble_eq_true rfl, Nat.le_of_ble_eq_true rfl⟩ dL_law_4 (Nat.le_of_ble_eq_true rfl)) rfl rfl (fun _ h2 => ?_)
  refine z_astore_n C dL_law_7 [(1, .ref a1), (0, .ref b)] (by decide) rfl ?_
  refine z_new (u' := (127, 1756, 145, 3492)) C nL_10 rfl ⟨Nat.le_of_ble_eq_true rfl, Nat.le_of_ble_eq_true rfl⟩ dL_law_8 (fun a2 h3 => ?_)
  refine z_dup C dL_law_11 rfl ?_
  refine z_callc (u' := (145, 3492, 145, 3492)) (z_runI (rest := [.ref a2]) C jL_12 (kX12_init N h3 a2) (Nat.le_of_ble_eq_true rfl) ⟨Nat.le_of_ble_eq_true rfl, Nat.le_of_ble_eq_true rfl⟩ dL_law_12 (Nat.le_of_ble_eq_true rfl)) rfl rfl (fun _ h4 => ?_)
  refine z_astore_n C dL_law_15 [(2, .ref a2), (1, .ref a1), (0, .ref b)] (by decide) rfl ?_
  refine z_iconst (v := (0 : Int32)) C dL_law_16 rfl ?_
  refine z_istore_n C dL_law_17 [(3, .int (0 : Int32)), (2, .ref a2), (1, .ref a1), (0, .ref b)] (by decide) rfl ?_
  exact z_lv _ [3, 2, 1, 0] rfl (tL_law_18 hX C N N _ a1 a2 (0 : Int32))
