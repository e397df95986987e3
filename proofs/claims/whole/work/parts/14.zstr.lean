def zSv (i : Nat) : Option Nat := if i < 7 then some i else none
def zBl (i : Nat) : Option Int32 := if i < 7 then some (Int32.ofNat (zLen.getD i 0)) else none
def zBb (i : Nat) (j : Int32) : Option Int32 := if i < 7 ∧ ¬ (j < 0 ∨ zLen.getD i 0 ≤ j.toNatClampNeg) then some ((zByt.getD i []).getD j.toNatClampNeg 0) else none
theorem zSv_spec {i j : Nat} (E : zSv i = some j) : i < 7 ∧ j = i := by
  unfold zSv at E
  split at E
  · rename_i hi; cases E; exact ⟨hi, rfl⟩
  · cases E
section
variable {X : zX} {g : zG} {y : MethodName} {cc : ByteArray} {nL lev mc ms : Nat} {rt : Option FieldType} {u : Nat × Nat × Nat × Nat} {T : Type} {rv : T → Option Value} {F : Option (T × AH)} {h : AH} {pc pc' i k : Nat} {lv : List (Nat × Value)} {st : List Value}
theorem z_sval (C : zC X g y cc nL lev mc ms rt) {G : Nat → Option (T × AH)} (w : Cond.fieldLink y.cls k "java/lang/String" "value" "[B" ∈ tblG) (d : zD cc pc (.getfield k) 3 pc') (kk : ∀ j, ZZ X g nL u rv (G j) h pc' lv (.ref (g.2.2.2.1 j) :: st)) : ZZ X g nL u rv ((zSv i).bind G) h pc lv (.ref (g.2.2.1 i) :: st) := by
  obtain ⟨p, l, e, R, s, m, args, below, meth, c⟩ := X
  obtain ⟨⟨hx, hb, hml, hown, hts⟩, hr, hlk, hnm, hS0, hRf, hRl, hRc, hRs, hzs⟩ := C
  obtain ⟨hd, rfl⟩ := d
  intro r h' E H locs ls hR hS hl
  obtain ⟨j, hj, E2⟩ := Option.bind_eq_some_iff.mp E
  obtain ⟨hi, hji⟩ := zSv_spec hj
  subst hji
  exact vk_getf hx hb (hS0.2.1.1 j hi).2.2.1 hS hown (hts _ w) (fun _ q => q) hd (kk j r h' E2 H locs ls hR hS hl)
theorem z_scoder (C : zC X g y cc nL lev mc ms rt) {G : Nat → Option (T × AH)} (w : Cond.fieldLink y.cls k "java/lang/String" "coder" "B" ∈ tblG) (d : zD cc pc (.getfield k) 3 pc') (kk : ∀ j, ZZ X g nL u rv (G j) h pc' lv (.int 0 :: st)) : ZZ X g nL u rv ((zSv i).bind G) h pc lv (.ref (g.2.2.1 i) :: st) := by
  obtain ⟨p, l, e, R, s, m, args, below, meth, c⟩ := X
  obtain ⟨⟨hx, hb, hml, hown, hts⟩, hr, hlk, hnm, hS0, hRf, hRl, hRc, hRs, hzs⟩ := C
  obtain ⟨hd, rfl⟩ := d
  intro r h' E H locs ls hR hS hl
  obtain ⟨j, hj, E2⟩ := Option.bind_eq_some_iff.mp E
  obtain ⟨hi, hji⟩ := zSv_spec hj
  subst hji
  exact vk_getf hx hb (hS0.2.1.1 j hi).2.1 hS hown (hts _ w) (fun _ q => q) hd (kk j r h' E2 H locs ls hR hS hl)
theorem z_blen (C : zC X g y cc nL lev mc ms rt) {G : Int32 → Option (T × AH)} (d : zD cc pc .arraylength 1 pc') (kk : ∀ v, ZZ X g nL u rv (G v) h pc' lv (.int v :: st)) : ZZ X g nL u rv ((zBl i).bind G) h pc lv (.ref (g.2.2.2.1 i) :: st) := by
  obtain ⟨p, l, e, R, s, m, args, below, meth, c⟩ := X
  obtain ⟨⟨hx, hb, hml, hown, hts⟩, hr, hlk, hnm, hS0, hRf, hRl, hRc, hRs, hzs⟩ := C
  obtain ⟨hd, rfl⟩ := d
  intro r h' E H locs ls hR hS hl
  obtain ⟨v, hv, E⟩ := Option.bind_eq_some_iff.mp E
  unfold zBl at hv
  split at hv
  · rename_i hi
    cases hv
    exact va_tlen hx hb (hS0.2.1.1 i hi).2.2.2 hS rfl hd (kk _ r h' E H locs ls hR hS hl)
  · cases hv
theorem z_bald (C : zC X g y cc nL lev mc ms rt) {j : Int32} {G : Int32 → Option (T × AH)} (d : zD cc pc .baload 1 pc') (kk : ∀ v, ZZ X g nL u rv (G v) h pc' lv (.int v :: st)) : ZZ X g nL u rv ((zBb i j).bind G) h pc lv (.int j :: .ref (g.2.2.2.1 i) :: st) := by
  obtain ⟨p, l, e, R, s, m, args, below, meth, c⟩ := X
  obtain ⟨⟨hx, hb, hml, hown, hts⟩, hr, hlk, hnm, hS0, hRf, hRl, hRc, hRs, hzs⟩ := C
  obtain ⟨hd, rfl⟩ := d
  intro r h' E H locs ls hR hS hl
  obtain ⟨v, hv, E⟩ := Option.bind_eq_some_iff.mp E
  unfold zBb at hv
  split at hv
  · rename_i hi
    cases hv
    exact va_tb hx hb (hS0.2.1.1 i hi.1).2.2.2 hS hi.2 rfl hd (kk _ r h' E H locs ls hR hS hl)
  · cases hv
theorem z_compact (C : zC X g y cc nL lev mc ms rt) (w : Cond.fieldLink y.cls k "java/lang/String" "COMPACT_STRINGS" "Z" ∈ tblG) (d : zD cc pc (.getstatic k) 3 pc') (kk : ZZ X g nL u rv F h pc' lv (.int 1 :: st)) : ZZ X g nL u rv F h pc lv st := by
  obtain ⟨p, l, e, R, s, m, args, below, meth, c⟩ := X
  obtain ⟨⟨hx, hb, hml, hown, hts⟩, hr, hlk, hnm, hS0, hRf, hRl, hRc, hRs, hzs⟩ := C
  obtain ⟨hd, rfl⟩ := d
  intro r h' E H locs ls hR hS hl
  exact va_gets hx hb hS0.2.2.2.1 hS hown (hts _ w) (fun _ q => q) hd (kk r h' E H locs ls hR hS hl)
theorem z_fmt (C : zC X g y cc nL lev mc ms rt) (w : Cond.fieldLink y.cls k "jdk/internal/util/Preconditions" "SIOOBE_FORMATTER" "Ljava/util/function/BiFunction;" ∈ tblG) (d : zD cc pc (.getstatic k) 3 pc') (kk : ∀ v : Value, (v = .null ∨ ∃ t, v = .ref t) → ZZ X g nL u rv F h pc' lv (v :: st)) : ZZ X g nL u rv F h pc lv st := by
  obtain ⟨p, l, e, R, s, m, args, below, meth, c⟩ := X
  obtain ⟨⟨hx, hb, hml, hown, hts⟩, hr, hlk, hnm, hS0, hRf, hRl, hRc, hRs, hzs⟩ := C
  obtain ⟨hd, rfl⟩ := d
  intro r h' E H locs ls hR hS hl
  rcases hS0.2.2.2.2.1 with hz | ⟨t, hz⟩
  · exact va_gets hx hb hz hS hown (hts _ w) (fun _ q => q) hd (kk _ (Or.inl rfl) r h' E H locs ls hR hS hl)
  · exact va_gets hx hb hz hS hown (hts _ w) (fun _ q => q) hd (kk _ (Or.inr ⟨t, rfl⟩) r h' E H locs ls hR hS hl)
theorem z_ldcS (C : zC X g y cc nL lev mc ms rt) (i : Nat) {tx : String} (hi : zTx[i]? = some (y.cls, k, tx)) (d : zD cc pc (.ldc k) 2 pc') (kk : ZZ X g nL u rv F h pc' lv (.ref (g.2.2.1 i) :: st)) : ZZ X g nL u rv F h pc lv st := by
  obtain ⟨p, l, e, R, s, m, args, below, meth, c⟩ := X
  obtain ⟨⟨hx, hb, hml, hown, hts⟩, hr, hlk, hnm, hS0, hRf, hRl, hRc, hRs, hzs⟩ := C
  obtain ⟨hd, rfl⟩ := d
  intro r h' E H locs ls hR hS hl
  exact va_ldcS hx hb hown (hS0.2.2.1 i _ hi) hd (kk r h' E H locs ls hR hS hl)
end
def zKT (own : String) (i : Nat) (y' : MethodName) (cc' : ByteArray) (nL' : Nat) (rt' : Option FieldType) (n : Nat) : Prop := y'.cls = "java/lang/String" ∧ Cond.methodLink own i y' ∈ tblG ∧ Cond.instanceMethod y' ∈ tblG ∧ Cond.selects y'.cls y' y' ∈ tblG ∧ Cond.initialized y'.cls ∈ tblG ∧ Cond.code y' cc' nL' rt' ∈ tblG ∧ nL' ≤ 80 ∧ zKd y' n
theorem z_runT {X : zX} {g : zG} {y y' : MethodName} {cc cc' : ByteArray} {nL nL' lev lev' mc ms mc' ms' n : Nat} {rt rt' : Option FieldType} {u : Nat × Nat × Nat × Nat} {Tc : Type} {rvc : Tc → Option Value} {Fc : Option (Tc × AH)} {h : AH} {pc pc' i : Nat} {lv : List (Nat × Value)} {st rest As : List Value} {b j : Nat} (C : zC X g y cc nL lev mc ms rt) (kw : zKT y.cls i y' cc' nL' rt' n) (M : zM X.2.1 g y' cc' nL' rt' lev' mc' ms' rvc Fc h (.ref (g.2.2.1 b) :: As)) (hb0 : zSv b = some j) (hlev : lev' + 1 ≤ lev) (hcs : u.1 + mc' ≤ mc ∧ u.2.1 + ms' ≤ ms) (d : zD cc pc (.invokevirtual i) 3 pc') (hn : As.length = n) (hst : st = As.reverse ++ .ref (g.2.2.1 b) :: rest) (hW : (rest.map fun v => v.category).sum ≤ 8) : zRun X g nL u mc' ms' rvc Fc h pc lv st rest := by
  obtain ⟨p, l, e, R, s, m, args, below, meth, c⟩ := X
  obtain ⟨⟨hx, hb, hml, hown, hts⟩, hr, hlk, hnm, hS0, hRf, hRl, hRc, hRs, hzs⟩ := C
  obtain ⟨hd, -⟩ := d
  obtain ⟨k0, k1, k2, k3, k4, k5, k6, k7⟩ := kw
  intro r h' E H locs ls hR hS hl
  obtain ⟨hi, -⟩ := zSv_spec hb0
  refine ⟨(Value.ref (g.2.2.1 b) :: As).toArray, ?_⟩
  have hp := z_pre (p := p) (l := l) (e := e) (As := .ref (g.2.2.1 b) :: As) hS0 hR hS
  have hrc := vk_recv hS0.2.1 hi hS
  rw [← k0] at hrc
  exact va_runV (Ts := tblG) (As := As) (rest := rest) ⟨hx, hb, hml, hown, hts⟩ (M r h' E) ⟨callB_of n hts (zGood k5) rfl rfl rfl (hts _ k4) (hts _ k1) k7 (z_room hRf hRl hlev k6), hts _ k2, hts _ k3⟩ ⟨hp.1, hrc, hp.2⟩ rfl hn hl.1 hst (lv_room hW) hd ⟨Nat.le_trans hcs.1 hRc, Nat.le_trans hcs.2 hRs⟩
theorem mX5_61 : zKT RX5 61 yJ0_indexOf_0f7a4 cJ0_indexOf_0f7a4 2 (some .int) 1 := ⟨rfl, tblG_at 622 (by decide +kernel) (by decide +kernel), tblG_at 623 (by decide +kernel) (by decide +kernel), tblG_at 624 (by decide +kernel) (by decide +kernel), tblG_at 84 (by decide +kernel) (by decide +kernel), tblG_at 625 (by decide +kernel) (by decide +kernel), by decide, by decide, by decide, by decide +kernel⟩
theorem mX5_67 : zKT RX5 67 yJ0_length_8abf5 cJ0_length_8abf5 1 (some .int) 0 := ⟨rfl, tblG_at 547 (by decide +kernel) (by decide +kernel), tblG_at 548 (by decide +kernel) (by decide +kernel), tblG_at 549 (by decide +kernel) (by decide +kernel), tblG_at 84 (by decide +kernel) (by decide +kernel), tblG_at 550 (by decide +kernel) (by decide +kernel), by decide, by decide, by decide, by decide +kernel⟩
theorem mX5_69 : zKT RX5 69 yJ0_charAt_5068e cJ0_charAt_5068e 2 (some .char) 1 := ⟨rfl, tblG_at 557 (by decide +kernel) (by decide +kernel), tblG_at 558 (by decide +kernel) (by decide +kernel), tblG_at 559 (by decide +kernel) (by decide +kernel), tblG_at 84 (by decide +kernel) (by decide +kernel), tblG_at 560 (by decide +kernel) (by decide +kernel), by decide, by decide, by decide, by decide +kernel⟩
theorem qJ0_9 : Cond.fieldLink RJ0 9 "java/lang/String" "value" "[B" ∈ tblG := tblG_at 1446 (by decide +kernel) (by decide +kernel)
theorem mJ0_335 : zKT RJ0 335 yJ0_coder_7d493 cJ0_coder_7d493 1 (some .byte) 0 := ⟨rfl, tblG_at 551 (by decide +kernel) (by decide +kernel), tblG_at 552 (by decide +kernel) (by decide +kernel), tblG_at 553 (by decide +kernel) (by decide +kernel), tblG_at 84 (by decide +kernel) (by decide +kernel), tblG_at 554 (by decide +kernel) (by decide +kernel), by decide, by decide, by decide, by decide +kernel⟩
theorem mJ0_492 : zKT RJ0 492 yJ0_isLatin1_aae02 cJ0_isLatin1_aae02 1 (some .boolean) 0 := ⟨rfl, tblG_at 561 (by decide +kernel) (by decide +kernel), tblG_at 562 (by decide +kernel) (by decide +kernel), tblG_at 563 (by decide +kernel) (by decide +kernel), tblG_at 84 (by decide +kernel) (by decide +kernel), tblG_at 564 (by decide +kernel) (by decide +kernel), by decide, by decide, by decide, by decide +kernel⟩
theorem mJ0_633 : zKT RJ0 633 yJ0_indexOf_7cf53 cJ0_indexOf_7cf53 3 (some .int) 2 := ⟨rfl, tblG_at 626 (by decide +kernel) (by decide +kernel), tblG_at 627 (by decide +kernel) (by decide +kernel), tblG_at 628 (by decide +kernel) (by decide +kernel), tblG_at 84 (by decide +kernel) (by decide +kernel), tblG_at 629 (by decide +kernel) (by decide +kernel), by decide, by decide, by decide, by decide +kernel⟩
theorem mJ0_505 : zKT RJ0 505 yJ0_length_8abf5 cJ0_length_8abf5 1 (some .int) 0 := ⟨rfl, tblG_at 630 (by decide +kernel) (by decide +kernel), tblG_at 548 (by decide +kernel) (by decide +kernel), tblG_at 549 (by decide +kernel) (by decide +kernel), tblG_at 84 (by decide +kernel) (by decide +kernel), tblG_at 550 (by decide +kernel) (by decide +kernel), by decide, by decide, by decide, by decide +kernel⟩
theorem qJ0_38 : Cond.fieldLink RJ0 38 "java/lang/String" "COMPACT_STRINGS" "Z" ∈ tblG := tblG_at 555 (by decide +kernel) (by decide +kernel)
theorem qJ0_15 : Cond.fieldLink RJ0 15 "java/lang/String" "coder" "B" ∈ tblG := tblG_at 1447 (by decide +kernel) (by decide +kernel)
theorem qJ0_1053 : Cond.fieldLink RJ0 1053 "jdk/internal/util/Preconditions" "SIOOBE_FORMATTER" "Ljava/util/function/BiFunction;" ∈ tblG := tblG_at 571 (by decide +kernel) (by decide +kernel)
