section
variable {X : zX} {g : zG} {y : MethodName} {cc : ByteArray} {nL lev mc ms : Nat} {rt : Option FieldType} {u : Nat × Nat × Nat × Nat} {T : Type} {rv : T → Option Value} {F : Option (T × AH)} {h : AH} {pc pc' : Nat} {lv lv' : List (Nat × Value)} {st : List Value}
theorem z_iconst (C : zC X g y cc nL lev mc ms rt) {n : Int} {v : Int32} (d : zD cc pc (.iconst n) 1 pc') (hv : Int32.ofInt n = v) (k : ZZ X g nL u rv F h pc' lv (.int v :: st)) : ZZ X g nL u rv F h pc lv (st) := by
  obtain ⟨p, l, e, R, s, m, args, below, meth, c⟩ := X
  obtain ⟨⟨hx, hb, hml, hown, hts⟩, hr, hlk, hnm, hS0, hRf, hRl, hRc, hRs, hzs⟩ := C
  obtain ⟨hd, rfl⟩ := d
  intro r h' E H locs ls hR hS hl
  exact lv_iconst hx hb hd hv (k r h' E H locs ls hR hS hl)
theorem z_bipush (C : zC X g y cc nL lev mc ms rt) {n : Int} {v : Int32} (d : zD cc pc (.bipush n) 2 pc') (hv : (Int8.ofInt n).toInt32 = v) (k : ZZ X g nL u rv F h pc' lv (.int v :: st)) : ZZ X g nL u rv F h pc lv (st) := by
  obtain ⟨p, l, e, R, s, m, args, below, meth, c⟩ := X
  obtain ⟨⟨hx, hb, hml, hown, hts⟩, hr, hlk, hnm, hS0, hRf, hRl, hRc, hRs, hzs⟩ := C
  obtain ⟨hd, rfl⟩ := d
  intro r h' E H locs ls hR hS hl
  exact lv_bipush hx hb hd hv (k r h' E H locs ls hR hS hl)
theorem z_sipush (C : zC X g y cc nL lev mc ms rt) {n : Int} {v : Int32} (d : zD cc pc (.sipush n) 3 pc') (hv : (Int16.ofInt n).toInt32 = v) (k : ZZ X g nL u rv F h pc' lv (.int v :: st)) : ZZ X g nL u rv F h pc lv (st) := by
  obtain ⟨p, l, e, R, s, m, args, below, meth, c⟩ := X
  obtain ⟨⟨hx, hb, hml, hown, hts⟩, hr, hlk, hnm, hS0, hRf, hRl, hRc, hRs, hzs⟩ := C
  obtain ⟨hd, rfl⟩ := d
  intro r h' E H locs ls hR hS hl
  exact lv_sipush hx hb hd hv (k r h' E H locs ls hR hS hl)
theorem z_lconst (C : zC X g y cc nL lev mc ms rt) {n : Fin 2} {v : Int64} (d : zD cc pc (.lconst n) 1 pc') (hv : Int64.ofNat (n : Nat) = v) (k : ZZ X g nL u rv F h pc' lv (.long v :: st)) : ZZ X g nL u rv F h pc lv (st) := by
  obtain ⟨p, l, e, R, s, m, args, below, meth, c⟩ := X
  obtain ⟨⟨hx, hb, hml, hown, hts⟩, hr, hlk, hnm, hS0, hRf, hRl, hRc, hRs, hzs⟩ := C
  obtain ⟨hd, rfl⟩ := d
  intro r h' E H locs ls hR hS hl
  exact lv_lconst hx hb hd hv (k r h' E H locs ls hR hS hl)
theorem z_ldc (C : zC X g y cc nL lev mc ms rt) {i : Nat} {v : Int32} (d : zD cc pc (.ldc i) 2 pc') (hw : Cond.constant y.cls i v ∈ tblG) (k : ZZ X g nL u rv F h pc' lv (.int v :: st)) : ZZ X g nL u rv F h pc lv (st) := by
  obtain ⟨p, l, e, R, s, m, args, below, meth, c⟩ := X
  obtain ⟨⟨hx, hb, hml, hown, hts⟩, hr, hlk, hnm, hS0, hRf, hRl, hRc, hRs, hzs⟩ := C
  obtain ⟨hd, rfl⟩ := d
  intro r h' E H locs ls hR hS hl
  exact lv_ldc hx hb hown (hts _ hw) hd (k r h' E H locs ls hR hS hl)
theorem z_ldc_w (C : zC X g y cc nL lev mc ms rt) {i : Nat} {v : Int32} (d : zD cc pc (.ldc_w i) 3 pc') (hw : Cond.constant y.cls i v ∈ tblG) (k : ZZ X g nL u rv F h pc' lv (.int v :: st)) : ZZ X g nL u rv F h pc lv (st) := by
  obtain ⟨p, l, e, R, s, m, args, below, meth, c⟩ := X
  obtain ⟨⟨hx, hb, hml, hown, hts⟩, hr, hlk, hnm, hS0, hRf, hRl, hRc, hRs, hzs⟩ := C
  obtain ⟨hd, rfl⟩ := d
  intro r h' E H locs ls hR hS hl
  exact lv_ldcw hx hb hown (hts _ hw) hd (k r h' E H locs ls hR hS hl)
theorem z_ldc2_w (C : zC X g y cc nL lev mc ms rt) {i : Nat} {v : Int64} (d : zD cc pc (.ldc2_w i) 3 pc') (hw : Cond.constantLong y.cls i v ∈ tblG) (k : ZZ X g nL u rv F h pc' lv (.long v :: st)) : ZZ X g nL u rv F h pc lv (st) := by
  obtain ⟨p, l, e, R, s, m, args, below, meth, c⟩ := X
  obtain ⟨⟨hx, hb, hml, hown, hts⟩, hr, hlk, hnm, hS0, hRf, hRl, hRc, hRs, hzs⟩ := C
  obtain ⟨hd, rfl⟩ := d
  intro r h' E H locs ls hR hS hl
  exact lv_ldc2 hx hb hown (hts _ hw) hd (k r h' E H locs ls hR hS hl)
theorem z_iload_n (C : zC X g y cc nL lev mc ms rt) {j : Fin 4} {x : Int32} (q : Nat) (d : zD cc pc (.iload_n j) 1 pc') (hl0 : lv[q]? = some ((j : Nat), .int x)) (k : ZZ X g nL u rv F h pc' lv (.int x :: st)) : ZZ X g nL u rv F h pc lv (st) := by
  obtain ⟨p, l, e, R, s, m, args, below, meth, c⟩ := X
  obtain ⟨⟨hx, hb, hml, hown, hts⟩, hr, hlk, hnm, hS0, hRf, hRl, hRc, hRs, hzs⟩ := C
  obtain ⟨hd, rfl⟩ := d
  intro r h' E H locs ls hR hS hl
  exact lv_iload_n hx hb hd rfl (lv_at hl q hl0) (k r h' E H locs ls hR hS hl)
theorem z_iload (C : zC X g y cc nL lev mc ms rt) {j : Nat} {x : Int32} (q : Nat) (d : zD cc pc (.iload j) 2 pc') (hl0 : lv[q]? = some (j, .int x)) (k : ZZ X g nL u rv F h pc' lv (.int x :: st)) : ZZ X g nL u rv F h pc lv (st) := by
  obtain ⟨p, l, e, R, s, m, args, below, meth, c⟩ := X
  obtain ⟨⟨hx, hb, hml, hown, hts⟩, hr, hlk, hnm, hS0, hRf, hRl, hRc, hRs, hzs⟩ := C
  obtain ⟨hd, rfl⟩ := d
  intro r h' E H locs ls hR hS hl
  exact lv_iload hx hb hd (lv_at hl q hl0) (k r h' E H locs ls hR hS hl)
theorem z_lload_n (C : zC X g y cc nL lev mc ms rt) {j : Fin 4} {x : Int64} (q : Nat) (d : zD cc pc (.lload_n j) 1 pc') (hl0 : lv[q]? = some ((j : Nat), .long x)) (k : ZZ X g nL u rv F h pc' lv (.long x :: st)) : ZZ X g nL u rv F h pc lv (st) := by
  obtain ⟨p, l, e, R, s, m, args, below, meth, c⟩ := X
  obtain ⟨⟨hx, hb, hml, hown, hts⟩, hr, hlk, hnm, hS0, hRf, hRl, hRc, hRs, hzs⟩ := C
  obtain ⟨hd, rfl⟩ := d
  intro r h' E H locs ls hR hS hl
  exact lv_lload_n hx hb hd rfl (lv_at hl q hl0) (k r h' E H locs ls hR hS hl)
theorem z_lload (C : zC X g y cc nL lev mc ms rt) {j : Nat} {x : Int64} (q : Nat) (d : zD cc pc (.lload j) 2 pc') (hl0 : lv[q]? = some (j, .long x)) (k : ZZ X g nL u rv F h pc' lv (.long x :: st)) : ZZ X g nL u rv F h pc lv (st) := by
  obtain ⟨p, l, e, R, s, m, args, below, meth, c⟩ := X
  obtain ⟨⟨hx, hb, hml, hown, hts⟩, hr, hlk, hnm, hS0, hRf, hRl, hRc, hRs, hzs⟩ := C
  obtain ⟨hd, rfl⟩ := d
  intro r h' E H locs ls hR hS hl
  exact lv_lload hx hb hd (lv_at hl q hl0) (k r h' E H locs ls hR hS hl)
theorem z_aload_n (C : zC X g y cc nL lev mc ms rt) {j : Fin 4} {x : Nat} (q : Nat) (d : zD cc pc (.aload_n j) 1 pc') (hl0 : lv[q]? = some ((j : Nat), .ref x)) (k : ZZ X g nL u rv F h pc' lv (.ref x :: st)) : ZZ X g nL u rv F h pc lv (st) := by
  obtain ⟨p, l, e, R, s, m, args, below, meth, c⟩ := X
  obtain ⟨⟨hx, hb, hml, hown, hts⟩, hr, hlk, hnm, hS0, hRf, hRl, hRc, hRs, hzs⟩ := C
  obtain ⟨hd, rfl⟩ := d
  intro r h' E H locs ls hR hS hl
  exact lv_aload_n hx hb hd rfl (lv_at hl q hl0) (k r h' E H locs ls hR hS hl)
theorem z_aload (C : zC X g y cc nL lev mc ms rt) {j : Nat} {x : Nat} (q : Nat) (d : zD cc pc (.aload j) 2 pc') (hl0 : lv[q]? = some (j, .ref x)) (k : ZZ X g nL u rv F h pc' lv (.ref x :: st)) : ZZ X g nL u rv F h pc lv (st) := by
  obtain ⟨p, l, e, R, s, m, args, below, meth, c⟩ := X
  obtain ⟨⟨hx, hb, hml, hown, hts⟩, hr, hlk, hnm, hS0, hRf, hRl, hRc, hRs, hzs⟩ := C
  obtain ⟨hd, rfl⟩ := d
  intro r h' E H locs ls hR hS hl
  exact lv_aload hx hb hd (lv_at hl q hl0) (k r h' E H locs ls hR hS hl)
theorem z_istore_n (C : zC X g y cc nL lev mc ms rt) {j : Fin 4} {x : Int32} (d : zD cc pc (.istore_n j) 1 pc') (lv' : List (Nat × Value)) (hn : (j : Nat) < nL) (hl' : ((j : Nat), Value.int x) :: lv.filter (fun q => !(q.1 == (j : Nat)) && !(q.1 + 1 == (j : Nat) && q.2.category == 2)) = lv') (k : ZZ X g nL u rv F h pc' lv' st) : ZZ X g nL u rv F h pc lv (.int x :: st) := by
  obtain ⟨p, l, e, R, s, m, args, below, meth, c⟩ := X
  obtain ⟨⟨hx, hb, hml, hown, hts⟩, hr, hlk, hnm, hS0, hRf, hRl, hRc, hRs, hzs⟩ := C
  obtain ⟨hd, rfl⟩ := d
  intro r h' E H locs ls hR hS hl
  exact lv_istore_n hx hb hd rfl hl hn hl' (fun ls hl => (k r h' E H locs ls hR hS hl))
theorem z_istore (C : zC X g y cc nL lev mc ms rt) {j : Nat} {x : Int32} (d : zD cc pc (.istore j) 2 pc') (lv' : List (Nat × Value)) (hn : (j : Nat) < nL) (hl' : ((j : Nat), Value.int x) :: lv.filter (fun q => !(q.1 == (j : Nat)) && !(q.1 + 1 == (j : Nat) && q.2.category == 2)) = lv') (k : ZZ X g nL u rv F h pc' lv' st) : ZZ X g nL u rv F h pc lv (.int x :: st) := by
  obtain ⟨p, l, e, R, s, m, args, below, meth, c⟩ := X
  obtain ⟨⟨hx, hb, hml, hown, hts⟩, hr, hlk, hnm, hS0, hRf, hRl, hRc, hRs, hzs⟩ := C
  obtain ⟨hd, rfl⟩ := d
  intro r h' E H locs ls hR hS hl
  exact lv_istore hx hb hd hl hn hl' (fun ls hl => (k r h' E H locs ls hR hS hl))
theorem z_lstore_n (C : zC X g y cc nL lev mc ms rt) {j : Fin 4} {x : Int64} (d : zD cc pc (.lstore_n j) 1 pc') (lv' : List (Nat × Value)) (hn : (j : Nat) + 1 < nL) (hl' : ((j : Nat), Value.long x) :: lv.filter (fun q => !(q.1 == (j : Nat)) && (!(q.1 == (j : Nat) + 1) && !(q.1 + 1 == (j : Nat) && q.2.category == 2))) = lv') (k : ZZ X g nL u rv F h pc' lv' st) : ZZ X g nL u rv F h pc lv (.long x :: st) := by
  obtain ⟨p, l, e, R, s, m, args, below, meth, c⟩ := X
  obtain ⟨⟨hx, hb, hml, hown, hts⟩, hr, hlk, hnm, hS0, hRf, hRl, hRc, hRs, hzs⟩ := C
  obtain ⟨hd, rfl⟩ := d
  intro r h' E H locs ls hR hS hl
  exact lv_lstore_n hx hb hd rfl hl hn hl' (fun ls hl => (k r h' E H locs ls hR hS hl))
theorem z_lstore (C : zC X g y cc nL lev mc ms rt) {j : Nat} {x : Int64} (d : zD cc pc (.lstore j) 2 pc') (lv' : List (Nat × Value)) (hn : (j : Nat) + 1 < nL) (hl' : ((j : Nat), Value.long x) :: lv.filter (fun q => !(q.1 == (j : Nat)) && (!(q.1 == (j : Nat) + 1) && !(q.1 + 1 == (j : Nat) && q.2.category == 2))) = lv') (k : ZZ X g nL u rv F h pc' lv' st) : ZZ X g nL u rv F h pc lv (.long x :: st) := by
  obtain ⟨p, l, e, R, s, m, args, below, meth, c⟩ := X
  obtain ⟨⟨hx, hb, hml, hown, hts⟩, hr, hlk, hnm, hS0, hRf, hRl, hRc, hRs, hzs⟩ := C
  obtain ⟨hd, rfl⟩ := d
  intro r h' E H locs ls hR hS hl
  exact lv_lstore hx hb hd hl hn hl' (fun ls hl => (k r h' E H locs ls hR hS hl))
theorem z_astore_n (C : zC X g y cc nL lev mc ms rt) {j : Fin 4} {x : Nat} (d : zD cc pc (.astore_n j) 1 pc') (lv' : List (Nat × Value)) (hn : (j : Nat) < nL) (hl' : ((j : Nat), Value.ref x) :: lv.filter (fun q => !(q.1 == (j : Nat)) && !(q.1 + 1 == (j : Nat) && q.2.category == 2)) = lv') (k : ZZ X g nL u rv F h pc' lv' st) : ZZ X g nL u rv F h pc lv (.ref x :: st) := by
  obtain ⟨p, l, e, R, s, m, args, below, meth, c⟩ := X
  obtain ⟨⟨hx, hb, hml, hown, hts⟩, hr, hlk, hnm, hS0, hRf, hRl, hRc, hRs, hzs⟩ := C
  obtain ⟨hd, rfl⟩ := d
  intro r h' E H locs ls hR hS hl
  exact lv_astore_n hx hb hd rfl hl hn hl' (fun ls hl => (k r h' E H locs ls hR hS hl))
theorem z_astore (C : zC X g y cc nL lev mc ms rt) {j : Nat} {x : Nat} (d : zD cc pc (.astore j) 2 pc') (lv' : List (Nat × Value)) (hn : (j : Nat) < nL) (hl' : ((j : Nat), Value.ref x) :: lv.filter (fun q => !(q.1 == (j : Nat)) && !(q.1 + 1 == (j : Nat) && q.2.category == 2)) = lv') (k : ZZ X g nL u rv F h pc' lv' st) : ZZ X g nL u rv F h pc lv (.ref x :: st) := by
  obtain ⟨p, l, e, R, s, m, args, below, meth, c⟩ := X
  obtain ⟨⟨hx, hb, hml, hown, hts⟩, hr, hlk, hnm, hS0, hRf, hRl, hRc, hRs, hzs⟩ := C
  obtain ⟨hd, rfl⟩ := d
  intro r h' E H locs ls hR hS hl
  exact lv_astore hx hb hd hl hn hl' (fun ls hl => (k r h' E H locs ls hR hS hl))
theorem z_iinc (C : zC X g y cc nL lev mc ms rt) {j : Nat} {n : Int} {x v : Int32} (q : Nat) (d : zD cc pc (.iinc j n) 3 pc') (lv' : List (Nat × Value)) (hl0 : lv[q]? = some (j, .int x)) (hv : x + Int32.ofInt n = v) (hn : j < nL) (hl' : (j, Value.int v) :: lv.filter (fun q => !(q.1 == j) && !(q.1 + 1 == j && q.2.category == 2)) = lv') (k : ZZ X g nL u rv F h pc' lv' st) : ZZ X g nL u rv F h pc lv st := by
  obtain ⟨p, l, e, R, s, m, args, below, meth, c⟩ := X
  obtain ⟨⟨hx, hb, hml, hown, hts⟩, hr, hlk, hnm, hS0, hRf, hRl, hRc, hRs, hzs⟩ := C
  obtain ⟨hd, rfl⟩ := d
  intro r h' E H locs ls hR hS hl
  exact lv_iinc hx hb hd hl hl0 hv hn hl' (fun ls hl => (k r h' E H locs ls hR hS hl))
theorem z_iadd (C : zC X g y cc nL lev mc ms rt) {x z : Int32} (d : zD cc pc .iadd 1 pc') (k : ZZ X g nL u rv F h pc' lv (.int (x + z) :: st)) : ZZ X g nL u rv F h pc lv (.int z :: .int x :: st) := by
  obtain ⟨p, l, e, R, s, m, args, below, meth, c⟩ := X
  obtain ⟨⟨hx, hb, hml, hown, hts⟩, hr, hlk, hnm, hS0, hRf, hRl, hRc, hRs, hzs⟩ := C
  obtain ⟨hd, rfl⟩ := d
  intro r h' E H locs ls hR hS hl
  exact lv_iadd hx hb hd (k r h' E H locs ls hR hS hl)
theorem z_isub (C : zC X g y cc nL lev mc ms rt) {x z : Int32} (d : zD cc pc .isub 1 pc') (k : ZZ X g nL u rv F h pc' lv (.int (x - z) :: st)) : ZZ X g nL u rv F h pc lv (.int z :: .int x :: st) := by
  obtain ⟨p, l, e, R, s, m, args, below, meth, c⟩ := X
  obtain ⟨⟨hx, hb, hml, hown, hts⟩, hr, hlk, hnm, hS0, hRf, hRl, hRc, hRs, hzs⟩ := C
  obtain ⟨hd, rfl⟩ := d
  intro r h' E H locs ls hR hS hl
  exact lv_isub hx hb hd (k r h' E H locs ls hR hS hl)
theorem z_imul (C : zC X g y cc nL lev mc ms rt) {x z : Int32} (d : zD cc pc .imul 1 pc') (k : ZZ X g nL u rv F h pc' lv (.int (x * z) :: st)) : ZZ X g nL u rv F h pc lv (.int z :: .int x :: st) := by
  obtain ⟨p, l, e, R, s, m, args, below, meth, c⟩ := X
  obtain ⟨⟨hx, hb, hml, hown, hts⟩, hr, hlk, hnm, hS0, hRf, hRl, hRc, hRs, hzs⟩ := C
  obtain ⟨hd, rfl⟩ := d
  intro r h' E H locs ls hR hS hl
  exact lv_imul hx hb hd (k r h' E H locs ls hR hS hl)
theorem z_iand (C : zC X g y cc nL lev mc ms rt) {x z : Int32} (d : zD cc pc .iand 1 pc') (k : ZZ X g nL u rv F h pc' lv (.int (x &&& z) :: st)) : ZZ X g nL u rv F h pc lv (.int z :: .int x :: st) := by
  obtain ⟨p, l, e, R, s, m, args, below, meth, c⟩ := X
  obtain ⟨⟨hx, hb, hml, hown, hts⟩, hr, hlk, hnm, hS0, hRf, hRl, hRc, hRs, hzs⟩ := C
  obtain ⟨hd, rfl⟩ := d
  intro r h' E H locs ls hR hS hl
  exact lv_iand hx hb hd (k r h' E H locs ls hR hS hl)
theorem z_ior (C : zC X g y cc nL lev mc ms rt) {x z : Int32} (d : zD cc pc .ior 1 pc') (k : ZZ X g nL u rv F h pc' lv (.int (x ||| z) :: st)) : ZZ X g nL u rv F h pc lv (.int z :: .int x :: st) := by
  obtain ⟨p, l, e, R, s, m, args, below, meth, c⟩ := X
  obtain ⟨⟨hx, hb, hml, hown, hts⟩, hr, hlk, hnm, hS0, hRf, hRl, hRc, hRs, hzs⟩ := C
  obtain ⟨hd, rfl⟩ := d
  intro r h' E H locs ls hR hS hl
  exact lv_ior hx hb hd (k r h' E H locs ls hR hS hl)
theorem z_ixor (C : zC X g y cc nL lev mc ms rt) {x z : Int32} (d : zD cc pc .ixor 1 pc') (k : ZZ X g nL u rv F h pc' lv (.int (x ^^^ z) :: st)) : ZZ X g nL u rv F h pc lv (.int z :: .int x :: st) := by
  obtain ⟨p, l, e, R, s, m, args, below, meth, c⟩ := X
  obtain ⟨⟨hx, hb, hml, hown, hts⟩, hr, hlk, hnm, hS0, hRf, hRl, hRc, hRs, hzs⟩ := C
  obtain ⟨hd, rfl⟩ := d
  intro r h' E H locs ls hR hS hl
  exact lv_ixor hx hb hd (k r h' E H locs ls hR hS hl)
theorem z_ishl (C : zC X g y cc nL lev mc ms rt) {x z : Int32} (d : zD cc pc .ishl 1 pc') (k : ZZ X g nL u rv F h pc' lv (.int (x <<< (z &&& 31)) :: st)) : ZZ X g nL u rv F h pc lv (.int z :: .int x :: st) := by
  obtain ⟨p, l, e, R, s, m, args, below, meth, c⟩ := X
  obtain ⟨⟨hx, hb, hml, hown, hts⟩, hr, hlk, hnm, hS0, hRf, hRl, hRc, hRs, hzs⟩ := C
  obtain ⟨hd, rfl⟩ := d
  intro r h' E H locs ls hR hS hl
  exact lv_ishl hx hb hd (k r h' E H locs ls hR hS hl)
theorem z_ishr (C : zC X g y cc nL lev mc ms rt) {x z : Int32} (d : zD cc pc .ishr 1 pc') (k : ZZ X g nL u rv F h pc' lv (.int (x >>> (z &&& 31)) :: st)) : ZZ X g nL u rv F h pc lv (.int z :: .int x :: st) := by
  obtain ⟨p, l, e, R, s, m, args, below, meth, c⟩ := X
  obtain ⟨⟨hx, hb, hml, hown, hts⟩, hr, hlk, hnm, hS0, hRf, hRl, hRc, hRs, hzs⟩ := C
  obtain ⟨hd, rfl⟩ := d
  intro r h' E H locs ls hR hS hl
  exact lv_ishr hx hb hd (k r h' E H locs ls hR hS hl)
theorem z_iushr (C : zC X g y cc nL lev mc ms rt) {x z : Int32} (d : zD cc pc .iushr 1 pc') (k : ZZ X g nL u rv F h pc' lv (.int ((x.toUInt32 >>> (z.toUInt32 &&& Int32.toUInt32 31)).toInt32) :: st)) : ZZ X g nL u rv F h pc lv (.int z :: .int x :: st) := by
  obtain ⟨p, l, e, R, s, m, args, below, meth, c⟩ := X
  obtain ⟨⟨hx, hb, hml, hown, hts⟩, hr, hlk, hnm, hS0, hRf, hRl, hRc, hRs, hzs⟩ := C
  obtain ⟨hd, rfl⟩ := d
  intro r h' E H locs ls hR hS hl
  exact lv_iushr hx hb hd rfl (k r h' E H locs ls hR hS hl)
theorem z_idiv (C : zC X g y cc nL lev mc ms rt) {x z : Int32} (d : zD cc pc .idiv 1 pc') (hz : ¬ z = 0) (k : ZZ X g nL u rv F h pc' lv (.int (x / z) :: st)) : ZZ X g nL u rv F h pc lv (.int z :: .int x :: st) := by
  obtain ⟨p, l, e, R, s, m, args, below, meth, c⟩ := X
  obtain ⟨⟨hx, hb, hml, hown, hts⟩, hr, hlk, hnm, hS0, hRf, hRl, hRc, hRs, hzs⟩ := C
  obtain ⟨hd, rfl⟩ := d
  intro r h' E H locs ls hR hS hl
  exact lv_idiv hx hb hd hz (k r h' E H locs ls hR hS hl)
theorem z_irem (C : zC X g y cc nL lev mc ms rt) {x z : Int32} (d : zD cc pc .irem 1 pc') (hz : ¬ z = 0) (k : ZZ X g nL u rv F h pc' lv (.int (x - x / z * z) :: st)) : ZZ X g nL u rv F h pc lv (.int z :: .int x :: st) := by
  obtain ⟨p, l, e, R, s, m, args, below, meth, c⟩ := X
  obtain ⟨⟨hx, hb, hml, hown, hts⟩, hr, hlk, hnm, hS0, hRf, hRl, hRc, hRs, hzs⟩ := C
  obtain ⟨hd, rfl⟩ := d
  intro r h' E H locs ls hR hS hl
  exact lv_irem hx hb hd hz (k r h' E H locs ls hR hS hl)
theorem z_ldiv (C : zC X g y cc nL lev mc ms rt) {x z : Int64} (d : zD cc pc .ldiv 1 pc') (hz : ¬ z = 0) (k : ZZ X g nL u rv F h pc' lv (.long (x / z) :: st)) : ZZ X g nL u rv F h pc lv (.long z :: .long x :: st) := by
  obtain ⟨p, l, e, R, s, m, args, below, meth, c⟩ := X
  obtain ⟨⟨hx, hb, hml, hown, hts⟩, hr, hlk, hnm, hS0, hRf, hRl, hRc, hRs, hzs⟩ := C
  obtain ⟨hd, rfl⟩ := d
  intro r h' E H locs ls hR hS hl
  exact lv_ldiv hx hb hd hz (k r h' E H locs ls hR hS hl)
theorem z_lrem (C : zC X g y cc nL lev mc ms rt) {x z : Int64} (d : zD cc pc .lrem 1 pc') (hz : ¬ z = 0) (k : ZZ X g nL u rv F h pc' lv (.long (x - x / z * z) :: st)) : ZZ X g nL u rv F h pc lv (.long z :: .long x :: st) := by
  obtain ⟨p, l, e, R, s, m, args, below, meth, c⟩ := X
  obtain ⟨⟨hx, hb, hml, hown, hts⟩, hr, hlk, hnm, hS0, hRf, hRl, hRc, hRs, hzs⟩ := C
  obtain ⟨hd, rfl⟩ := d
  intro r h' E H locs ls hR hS hl
  exact lv_lrem hx hb hd hz (k r h' E H locs ls hR hS hl)
theorem z_ladd (C : zC X g y cc nL lev mc ms rt) {x z : Int64} (d : zD cc pc .ladd 1 pc') (k : ZZ X g nL u rv F h pc' lv (.long (x + z) :: st)) : ZZ X g nL u rv F h pc lv (.long z :: .long x :: st) := by
  obtain ⟨p, l, e, R, s, m, args, below, meth, c⟩ := X
  obtain ⟨⟨hx, hb, hml, hown, hts⟩, hr, hlk, hnm, hS0, hRf, hRl, hRc, hRs, hzs⟩ := C
  obtain ⟨hd, rfl⟩ := d
  intro r h' E H locs ls hR hS hl
  exact lv_ladd hx hb hd (k r h' E H locs ls hR hS hl)
theorem z_land (C : zC X g y cc nL lev mc ms rt) {x z : Int64} (d : zD cc pc .land 1 pc') (k : ZZ X g nL u rv F h pc' lv (.long (x &&& z) :: st)) : ZZ X g nL u rv F h pc lv (.long z :: .long x :: st) := by
  obtain ⟨p, l, e, R, s, m, args, below, meth, c⟩ := X
  obtain ⟨⟨hx, hb, hml, hown, hts⟩, hr, hlk, hnm, hS0, hRf, hRl, hRc, hRs, hzs⟩ := C
  obtain ⟨hd, rfl⟩ := d
  intro r h' E H locs ls hR hS hl
  exact lv_land hx hb hd (k r h' E H locs ls hR hS hl)
theorem z_lor (C : zC X g y cc nL lev mc ms rt) {x z : Int64} (d : zD cc pc .lor 1 pc') (k : ZZ X g nL u rv F h pc' lv (.long (x ||| z) :: st)) : ZZ X g nL u rv F h pc lv (.long z :: .long x :: st) := by
  obtain ⟨p, l, e, R, s, m, args, below, meth, c⟩ := X
  obtain ⟨⟨hx, hb, hml, hown, hts⟩, hr, hlk, hnm, hS0, hRf, hRl, hRc, hRs, hzs⟩ := C
  obtain ⟨hd, rfl⟩ := d
  intro r h' E H locs ls hR hS hl
  exact lv_lor hx hb hd (k r h' E H locs ls hR hS hl)
theorem z_lshl (C : zC X g y cc nL lev mc ms rt) {x : Int64} {z : Int32} (d : zD cc pc .lshl 1 pc') (k : ZZ X g nL u rv F h pc' lv (.long (x <<< (z.toInt64 &&& 63)) :: st)) : ZZ X g nL u rv F h pc lv (.int z :: .long x :: st) := by
  obtain ⟨p, l, e, R, s, m, args, below, meth, c⟩ := X
  obtain ⟨⟨hx, hb, hml, hown, hts⟩, hr, hlk, hnm, hS0, hRf, hRl, hRc, hRs, hzs⟩ := C
  obtain ⟨hd, rfl⟩ := d
  intro r h' E H locs ls hR hS hl
  exact lv_lshl hx hb hd rfl (k r h' E H locs ls hR hS hl)
theorem z_ineg (C : zC X g y cc nL lev mc ms rt) {x : Int32} (d : zD cc pc .ineg 1 pc') (k : ZZ X g nL u rv F h pc' lv (.int (-x) :: st)) : ZZ X g nL u rv F h pc lv (.int x :: st) := by
  obtain ⟨p, l, e, R, s, m, args, below, meth, c⟩ := X
  obtain ⟨⟨hx, hb, hml, hown, hts⟩, hr, hlk, hnm, hS0, hRf, hRl, hRc, hRs, hzs⟩ := C
  obtain ⟨hd, rfl⟩ := d
  intro r h' E H locs ls hR hS hl
  exact lv_ineg hx hb hd (k r h' E H locs ls hR hS hl)
theorem z_i2l (C : zC X g y cc nL lev mc ms rt) {x : Int32} (d : zD cc pc .i2l 1 pc') (k : ZZ X g nL u rv F h pc' lv (.long (x.toInt64) :: st)) : ZZ X g nL u rv F h pc lv (.int x :: st) := by
  obtain ⟨p, l, e, R, s, m, args, below, meth, c⟩ := X
  obtain ⟨⟨hx, hb, hml, hown, hts⟩, hr, hlk, hnm, hS0, hRf, hRl, hRc, hRs, hzs⟩ := C
  obtain ⟨hd, rfl⟩ := d
  intro r h' E H locs ls hR hS hl
  exact lv_i2l hx hb hd rfl (k r h' E H locs ls hR hS hl)
theorem z_l2i (C : zC X g y cc nL lev mc ms rt) {x : Int64} (d : zD cc pc .l2i 1 pc') (k : ZZ X g nL u rv F h pc' lv (.int (x.toInt32) :: st)) : ZZ X g nL u rv F h pc lv (.long x :: st) := by
  obtain ⟨p, l, e, R, s, m, args, below, meth, c⟩ := X
  obtain ⟨⟨hx, hb, hml, hown, hts⟩, hr, hlk, hnm, hS0, hRf, hRl, hRc, hRs, hzs⟩ := C
  obtain ⟨hd, rfl⟩ := d
  intro r h' E H locs ls hR hS hl
  exact lv_l2i hx hb hd rfl (k r h' E H locs ls hR hS hl)
theorem z_i2b (C : zC X g y cc nL lev mc ms rt) {x : Int32} (d : zD cc pc .i2b 1 pc') (k : ZZ X g nL u rv F h pc' lv (.int (x.toInt8.toInt32) :: st)) : ZZ X g nL u rv F h pc lv (.int x :: st) := by
  obtain ⟨p, l, e, R, s, m, args, below, meth, c⟩ := X
  obtain ⟨⟨hx, hb, hml, hown, hts⟩, hr, hlk, hnm, hS0, hRf, hRl, hRc, hRs, hzs⟩ := C
  obtain ⟨hd, rfl⟩ := d
  intro r h' E H locs ls hR hS hl
  exact lv_i2b hx hb hd rfl (k r h' E H locs ls hR hS hl)
theorem z_i2s (C : zC X g y cc nL lev mc ms rt) {x : Int32} (d : zD cc pc .i2s 1 pc') (k : ZZ X g nL u rv F h pc' lv (.int (x.toInt16.toInt32) :: st)) : ZZ X g nL u rv F h pc lv (.int x :: st) := by
  obtain ⟨p, l, e, R, s, m, args, below, meth, c⟩ := X
  obtain ⟨⟨hx, hb, hml, hown, hts⟩, hr, hlk, hnm, hS0, hRf, hRl, hRc, hRs, hzs⟩ := C
  obtain ⟨hd, rfl⟩ := d
  intro r h' E H locs ls hR hS hl
  exact lv_i2s hx hb hd rfl (k r h' E H locs ls hR hS hl)
theorem z_i2c (C : zC X g y cc nL lev mc ms rt) {x : Int32} (d : zD cc pc .i2c 1 pc') (k : ZZ X g nL u rv F h pc' lv (.int ((x.toUInt32 % 65536).toInt32) :: st)) : ZZ X g nL u rv F h pc lv (.int x :: st) := by
  obtain ⟨p, l, e, R, s, m, args, below, meth, c⟩ := X
  obtain ⟨⟨hx, hb, hml, hown, hts⟩, hr, hlk, hnm, hS0, hRf, hRl, hRc, hRs, hzs⟩ := C
  obtain ⟨hd, rfl⟩ := d
  intro r h' E H locs ls hR hS hl
  exact lv_i2c hx hb hd rfl (k r h' E H locs ls hR hS hl)
theorem z_lcmp (C : zC X g y cc nL lev mc ms rt) {x z : Int64} (d : zD cc pc .lcmp 1 pc') (k : ZZ X g nL u rv F h pc' lv (.int (lg_cmp x z) :: st)) : ZZ X g nL u rv F h pc lv (.long z :: .long x :: st) := by
  obtain ⟨p, l, e, R, s, m, args, below, meth, c⟩ := X
  obtain ⟨⟨hx, hb, hml, hown, hts⟩, hr, hlk, hnm, hS0, hRf, hRl, hRc, hRs, hzs⟩ := C
  obtain ⟨hd, rfl⟩ := d
  intro r h' E H locs ls hR hS hl
  exact W.lcmp hx hb hd (k r h' E H locs ls hR hS hl)
theorem z_dup (C : zC X g y cc nL lev mc ms rt) {v : Value} (d : zD cc pc .dup 1 pc') (hv : v.category = 1) (k : ZZ X g nL u rv F h pc' lv (v :: v :: st)) : ZZ X g nL u rv F h pc lv (v :: st) := by
  obtain ⟨p, l, e, R, s, m, args, below, meth, c⟩ := X
  obtain ⟨⟨hx, hb, hml, hown, hts⟩, hr, hlk, hnm, hS0, hRf, hRl, hRc, hRs, hzs⟩ := C
  obtain ⟨hd, rfl⟩ := d
  intro r h' E H locs ls hR hS hl
  exact lv_dup hx hb hd hv (k r h' E H locs ls hR hS hl)
theorem z_pop (C : zC X g y cc nL lev mc ms rt) {v : Value} (d : zD cc pc .pop 1 pc') (hv : v.category = 1) (k : ZZ X g nL u rv F h pc' lv (st)) : ZZ X g nL u rv F h pc lv (v :: st) := by
  obtain ⟨p, l, e, R, s, m, args, below, meth, c⟩ := X
  obtain ⟨⟨hx, hb, hml, hown, hts⟩, hr, hlk, hnm, hS0, hRf, hRl, hRc, hRs, hzs⟩ := C
  obtain ⟨hd, rfl⟩ := d
  intro r h' E H locs ls hR hS hl
  exact lv_pop hx hb hd hv (k r h' E H locs ls hR hS hl)
theorem z_dup2 (C : zC X g y cc nL lev mc ms rt) {v v2 : Value} (d : zD cc pc .dup2 1 pc') (hv : v.category = 1) (hv2 : v2.category = 1) (k : ZZ X g nL u rv F h pc' lv (v :: v2 :: v :: v2 :: st)) : ZZ X g nL u rv F h pc lv (v :: v2 :: st) := by
  obtain ⟨p, l, e, R, s, m, args, below, meth, c⟩ := X
  obtain ⟨⟨hx, hb, hml, hown, hts⟩, hr, hlk, hnm, hS0, hRf, hRl, hRc, hRs, hzs⟩ := C
  obtain ⟨hd, rfl⟩ := d
  intro r h' E H locs ls hR hS hl
  exact lv_dup2_11 hx hb hd hv hv2 (k r h' E H locs ls hR hS hl)
theorem z_ifeq (C : zC X g y cc nL lev mc ms rt) {x : Int32} {o : Int} {A B : Option (T × AH)} (t : Nat) (d : zD cc pc (.ifCond .eq o) 3 pc') (ht : (pc : Int) + o = (t : Int)) (kt : ZZ X g nL u rv A h t lv st) (kf : ZZ X g nL u rv B h pc' lv st) : ZZ X g nL u rv (if x = 0 then A else B) h pc lv (.int x :: st) := by
  obtain ⟨p, l, e, R, s, m, args, below, meth, c⟩ := X
  obtain ⟨⟨hx, hb, hml, hown, hts⟩, hr, hlk, hnm, hS0, hRf, hRl, hRc, hRs, hzs⟩ := C
  obtain ⟨hd, rfl⟩ := d
  intro r h' E H locs ls hR hS hl
  exact lv_if_eq hx hb hd ht (fun q => kt r h' (by rw [← E]; simp [q]) H locs ls hR hS hl) (fun q => kf r h' (by rw [← E]; simp [q]) H locs ls hR hS hl)
theorem z_ifne (C : zC X g y cc nL lev mc ms rt) {x : Int32} {o : Int} {A B : Option (T × AH)} (t : Nat) (d : zD cc pc (.ifCond .ne o) 3 pc') (ht : (pc : Int) + o = (t : Int)) (kt : ZZ X g nL u rv B h t lv st) (kf : ZZ X g nL u rv A h pc' lv st) : ZZ X g nL u rv (if x = 0 then A else B) h pc lv (.int x :: st) := by
  obtain ⟨p, l, e, R, s, m, args, below, meth, c⟩ := X
  obtain ⟨⟨hx, hb, hml, hown, hts⟩, hr, hlk, hnm, hS0, hRf, hRl, hRc, hRs, hzs⟩ := C
  obtain ⟨hd, rfl⟩ := d
  intro r h' E H locs ls hR hS hl
  exact lv_if_ne hx hb hd ht (fun q => kt r h' (by rw [← E]; simp [q]) H locs ls hR hS hl) (fun q => kf r h' (by rw [← E]; simp [q]) H locs ls hR hS hl)
theorem z_iflt (C : zC X g y cc nL lev mc ms rt) {x : Int32} {o : Int} {A B : Option (T × AH)} (t : Nat) (d : zD cc pc (.ifCond .lt o) 3 pc') (ht : (pc : Int) + o = (t : Int)) (kt : ZZ X g nL u rv A h t lv st) (kf : ZZ X g nL u rv B h pc' lv st) : ZZ X g nL u rv (if x < 0 then A else B) h pc lv (.int x :: st) := by
  obtain ⟨p, l, e, R, s, m, args, below, meth, c⟩ := X
  obtain ⟨⟨hx, hb, hml, hown, hts⟩, hr, hlk, hnm, hS0, hRf, hRl, hRc, hRs, hzs⟩ := C
  obtain ⟨hd, rfl⟩ := d
  intro r h' E H locs ls hR hS hl
  exact lv_if_lt hx hb hd ht (fun q => kt r h' (by rw [← E]; simp [q]) H locs ls hR hS hl) (fun q => kf r h' (by rw [← E]; simp [q]) H locs ls hR hS hl)
theorem z_ifge (C : zC X g y cc nL lev mc ms rt) {x : Int32} {o : Int} {A B : Option (T × AH)} (t : Nat) (d : zD cc pc (.ifCond .ge o) 3 pc') (ht : (pc : Int) + o = (t : Int)) (kt : ZZ X g nL u rv A h t lv st) (kf : ZZ X g nL u rv B h pc' lv st) : ZZ X g nL u rv (if 0 ≤ x then A else B) h pc lv (.int x :: st) := by
  obtain ⟨p, l, e, R, s, m, args, below, meth, c⟩ := X
  obtain ⟨⟨hx, hb, hml, hown, hts⟩, hr, hlk, hnm, hS0, hRf, hRl, hRc, hRs, hzs⟩ := C
  obtain ⟨hd, rfl⟩ := d
  intro r h' E H locs ls hR hS hl
  exact lv_if_ge hx hb hd ht (fun q => kt r h' (by rw [← E]; simp [q]) H locs ls hR hS hl) (fun q => kf r h' (by rw [← E]; simp [q]) H locs ls hR hS hl)
theorem z_ifgt (C : zC X g y cc nL lev mc ms rt) {x : Int32} {o : Int} {A B : Option (T × AH)} (t : Nat) (d : zD cc pc (.ifCond .gt o) 3 pc') (ht : (pc : Int) + o = (t : Int)) (kt : ZZ X g nL u rv A h t lv st) (kf : ZZ X g nL u rv B h pc' lv st) : ZZ X g nL u rv (if 0 < x then A else B) h pc lv (.int x :: st) := by
  obtain ⟨p, l, e, R, s, m, args, below, meth, c⟩ := X
  obtain ⟨⟨hx, hb, hml, hown, hts⟩, hr, hlk, hnm, hS0, hRf, hRl, hRc, hRs, hzs⟩ := C
  obtain ⟨hd, rfl⟩ := d
  intro r h' E H locs ls hR hS hl
  exact lv_if_gt hx hb hd ht (fun q => kt r h' (by rw [← E]; simp [q]) H locs ls hR hS hl) (fun q => kf r h' (by rw [← E]; simp [q]) H locs ls hR hS hl)
theorem z_ifle (C : zC X g y cc nL lev mc ms rt) {x : Int32} {o : Int} {A B : Option (T × AH)} (t : Nat) (d : zD cc pc (.ifCond .le o) 3 pc') (ht : (pc : Int) + o = (t : Int)) (kt : ZZ X g nL u rv A h t lv st) (kf : ZZ X g nL u rv B h pc' lv st) : ZZ X g nL u rv (if x ≤ 0 then A else B) h pc lv (.int x :: st) := by
  obtain ⟨p, l, e, R, s, m, args, below, meth, c⟩ := X
  obtain ⟨⟨hx, hb, hml, hown, hts⟩, hr, hlk, hnm, hS0, hRf, hRl, hRc, hRs, hzs⟩ := C
  obtain ⟨hd, rfl⟩ := d
  intro r h' E H locs ls hR hS hl
  exact lv_if_le hx hb hd ht (fun q => kt r h' (by rw [← E]; simp [q]) H locs ls hR hS hl) (fun q => kf r h' (by rw [← E]; simp [q]) H locs ls hR hS hl)
theorem z_icmpeq (C : zC X g y cc nL lev mc ms rt) {x z : Int32} {o : Int} {A B : Option (T × AH)} (t : Nat) (d : zD cc pc (.if_icmp .eq o) 3 pc') (ht : (pc : Int) + o = (t : Int)) (kt : ZZ X g nL u rv A h t lv st) (kf : ZZ X g nL u rv B h pc' lv st) : ZZ X g nL u rv (if x = z then A else B) h pc lv (.int z :: .int x :: st) := by
  obtain ⟨p, l, e, R, s, m, args, below, meth, c⟩ := X
  obtain ⟨⟨hx, hb, hml, hown, hts⟩, hr, hlk, hnm, hS0, hRf, hRl, hRc, hRs, hzs⟩ := C
  obtain ⟨hd, rfl⟩ := d
  intro r h' E H locs ls hR hS hl
  exact lv_icmp_eq hx hb hd ht (fun q => kt r h' (by rw [← E]; simp [q]) H locs ls hR hS hl) (fun q => kf r h' (by rw [← E]; simp [q]) H locs ls hR hS hl)
theorem z_icmpne (C : zC X g y cc nL lev mc ms rt) {x z : Int32} {o : Int} {A B : Option (T × AH)} (t : Nat) (d : zD cc pc (.if_icmp .ne o) 3 pc') (ht : (pc : Int) + o = (t : Int)) (kt : ZZ X g nL u rv B h t lv st) (kf : ZZ X g nL u rv A h pc' lv st) : ZZ X g nL u rv (if x = z then A else B) h pc lv (.int z :: .int x :: st) := by
  obtain ⟨p, l, e, R, s, m, args, below, meth, c⟩ := X
  obtain ⟨⟨hx, hb, hml, hown, hts⟩, hr, hlk, hnm, hS0, hRf, hRl, hRc, hRs, hzs⟩ := C
  obtain ⟨hd, rfl⟩ := d
  intro r h' E H locs ls hR hS hl
  exact lv_icmp_ne hx hb hd ht (fun q => kt r h' (by rw [← E]; simp [q]) H locs ls hR hS hl) (fun q => kf r h' (by rw [← E]; simp [q]) H locs ls hR hS hl)
theorem z_icmplt (C : zC X g y cc nL lev mc ms rt) {x z : Int32} {o : Int} {A B : Option (T × AH)} (t : Nat) (d : zD cc pc (.if_icmp .lt o) 3 pc') (ht : (pc : Int) + o = (t : Int)) (kt : ZZ X g nL u rv A h t lv st) (kf : ZZ X g nL u rv B h pc' lv st) : ZZ X g nL u rv (if x < z then A else B) h pc lv (.int z :: .int x :: st) := by
  obtain ⟨p, l, e, R, s, m, args, below, meth, c⟩ := X
  obtain ⟨⟨hx, hb, hml, hown, hts⟩, hr, hlk, hnm, hS0, hRf, hRl, hRc, hRs, hzs⟩ := C
  obtain ⟨hd, rfl⟩ := d
  intro r h' E H locs ls hR hS hl
  exact lv_icmp_lt hx hb hd ht (fun q => kt r h' (by rw [← E]; simp [q]) H locs ls hR hS hl) (fun q => kf r h' (by rw [← E]; simp [q]) H locs ls hR hS hl)
theorem z_icmpge (C : zC X g y cc nL lev mc ms rt) {x z : Int32} {o : Int} {A B : Option (T × AH)} (t : Nat) (d : zD cc pc (.if_icmp .ge o) 3 pc') (ht : (pc : Int) + o = (t : Int)) (kt : ZZ X g nL u rv A h t lv st) (kf : ZZ X g nL u rv B h pc' lv st) : ZZ X g nL u rv (if z ≤ x then A else B) h pc lv (.int z :: .int x :: st) := by
  obtain ⟨p, l, e, R, s, m, args, below, meth, c⟩ := X
  obtain ⟨⟨hx, hb, hml, hown, hts⟩, hr, hlk, hnm, hS0, hRf, hRl, hRc, hRs, hzs⟩ := C
  obtain ⟨hd, rfl⟩ := d
  intro r h' E H locs ls hR hS hl
  exact lv_icmp_ge hx hb hd ht (fun q => kt r h' (by rw [← E]; simp [q]) H locs ls hR hS hl) (fun q => kf r h' (by rw [← E]; simp [q]) H locs ls hR hS hl)
theorem z_icmpgt (C : zC X g y cc nL lev mc ms rt) {x z : Int32} {o : Int} {A B : Option (T × AH)} (t : Nat) (d : zD cc pc (.if_icmp .gt o) 3 pc') (ht : (pc : Int) + o = (t : Int)) (kt : ZZ X g nL u rv A h t lv st) (kf : ZZ X g nL u rv B h pc' lv st) : ZZ X g nL u rv (if z < x then A else B) h pc lv (.int z :: .int x :: st) := by
  obtain ⟨p, l, e, R, s, m, args, below, meth, c⟩ := X
  obtain ⟨⟨hx, hb, hml, hown, hts⟩, hr, hlk, hnm, hS0, hRf, hRl, hRc, hRs, hzs⟩ := C
  obtain ⟨hd, rfl⟩ := d
  intro r h' E H locs ls hR hS hl
  exact lv_icmp_gt hx hb hd ht (fun q => kt r h' (by rw [← E]; simp [q]) H locs ls hR hS hl) (fun q => kf r h' (by rw [← E]; simp [q]) H locs ls hR hS hl)
theorem z_icmple (C : zC X g y cc nL lev mc ms rt) {x z : Int32} {o : Int} {A B : Option (T × AH)} (t : Nat) (d : zD cc pc (.if_icmp .le o) 3 pc') (ht : (pc : Int) + o = (t : Int)) (kt : ZZ X g nL u rv A h t lv st) (kf : ZZ X g nL u rv B h pc' lv st) : ZZ X g nL u rv (if x ≤ z then A else B) h pc lv (.int z :: .int x :: st) := by
  obtain ⟨p, l, e, R, s, m, args, below, meth, c⟩ := X
  obtain ⟨⟨hx, hb, hml, hown, hts⟩, hr, hlk, hnm, hS0, hRf, hRl, hRc, hRs, hzs⟩ := C
  obtain ⟨hd, rfl⟩ := d
  intro r h' E H locs ls hR hS hl
  exact lv_icmp_le hx hb hd ht (fun q => kt r h' (by rw [← E]; simp [q]) H locs ls hR hS hl) (fun q => kf r h' (by rw [← E]; simp [q]) H locs ls hR hS hl)
theorem z_goto (C : zC X g y cc nL lev mc ms rt) {o : Int} (t : Nat) (d : zD cc pc (.goto o) 3 pc') (ht : (pc : Int) + o = (t : Int)) (k : ZZ X g nL u rv F h t lv st) : ZZ X g nL u rv F h pc lv st := by
  obtain ⟨p, l, e, R, s, m, args, below, meth, c⟩ := X
  obtain ⟨⟨hx, hb, hml, hown, hts⟩, hr, hlk, hnm, hS0, hRf, hRl, hRc, hRs, hzs⟩ := C
  obtain ⟨hd, rfl⟩ := d
  intro r h' E H locs ls hR hS hl
  exact lv_goto hx hb hd ht (k r h' E H locs ls hR hS hl)
theorem z_none : ZZ X g nL u rv none h pc lv st := by
  obtain ⟨p, l, e, R, s, m, args, below, meth, c⟩ := X
  intro r h' E
  cases E
theorem z_ite {q : Prop} [Decidable q] {A B : Option (T × AH)} (ha : q → ZZ X g nL u rv A h pc lv st) (hb : ¬ q → ZZ X g nL u rv B h pc lv st) : ZZ X g nL u rv (if q then A else B) h pc lv st := by
  by_cases hq : q
  · rw [if_pos hq]; exact ha hq
  · rw [if_neg hq]; exact hb hq
theorem z_bind {α : Type} {O : Option α} {G : α → Option (T × AH)} (k : ∀ v, O = some v → ZZ X g nL u rv (G v) h pc lv st) : ZZ X g nL u rv (O.bind G) h pc lv st := by
  cases hO : O with
  | none => exact z_none
  | some v => exact k v hO
theorem z_lv (lv' : List (Nat × Value)) (ks : List Nat) (hl' : lv_pick lv ks = lv') (k : ZZ X g nL u rv F h pc lv' st) : ZZ X g nL u rv F h pc lv st := by
  obtain ⟨p, l, e, R, s, m, args, below, meth, c⟩ := X
  intro r h' E H locs ls hR hS hl
  exact k r h' E H locs ls hR hS (lv_sub hl ks hl')
theorem z_table (C : zC X g y cc nL lev mc ms rt) {x : Int32} {df lo hi o : Int} {os : Array Int} {n : Nat} (t : Nat) (d : zD cc pc (.tableswitch df lo hi os) n pc') (h1 : ¬ x.toInt < lo) (h2 : ¬ hi < x.toInt) (ho : os[(x.toInt - lo).toNat]? = some o) (ht : (pc : Int) + o = (t : Int)) (k : ZZ X g nL u rv F h t lv st) : ZZ X g nL u rv F h pc lv (.int x :: st) := by
  obtain ⟨p, l, e, R, s, m, args, below, meth, c⟩ := X
  obtain ⟨⟨hx, hb, hml, hown, hts⟩, hr, hlk, hnm, hS0, hRf, hRl, hRc, hRs, hzs⟩ := C
  obtain ⟨hd, rfl⟩ := d
  intro r h' E H locs ls hR hS hl
  exact lv_tableIn hx hb hd h1 h2 ho ht (k r h' E H locs ls hR hS hl)
theorem z_tableO (C : zC X g y cc nL lev mc ms rt) {x : Int32} {df lo hi : Int} {os : Array Int} {n : Nat} (t : Nat) (d : zD cc pc (.tableswitch df lo hi os) n pc') (h1 : x.toInt < lo ∨ hi < x.toInt) (ht : (pc : Int) + df = (t : Int)) (k : ZZ X g nL u rv F h t lv st) : ZZ X g nL u rv F h pc lv (.int x :: st) := by
  obtain ⟨p, l, e, R, s, m, args, below, meth, c⟩ := X
  obtain ⟨⟨hx, hb, hml, hown, hts⟩, hr, hlk, hnm, hS0, hRf, hRl, hRc, hRs, hzs⟩ := C
  obtain ⟨hd, rfl⟩ := d
  intro r h' E H locs ls hR hS hl
  exact lv_tableOut hx hb hd h1 ht (k r h' E H locs ls hR hS hl)
theorem z_lookup (C : zC X g y cc nL lev mc ms rt) {x : Int32} {df o : Int} {ps : Array (Int × Int)} {n : Nat} (t : Nat) (d : zD cc pc (.lookupswitch df ps) n pc') (hp : (ps.toList.zip (ps.toList.drop 1)).all (fun (a, next) => a.1 < next.1) = true) (ho : Op.lookupswitch.offset ps.toList df x.toInt = o) (ht : (pc : Int) + o = (t : Int)) (k : ZZ X g nL u rv F h t lv st) : ZZ X g nL u rv F h pc lv (.int x :: st) := by
  obtain ⟨p, l, e, R, s, m, args, below, meth, c⟩ := X
  obtain ⟨⟨hx, hb, hml, hown, hts⟩, hr, hlk, hnm, hS0, hRf, hRl, hRc, hRs, hzs⟩ := C
  obtain ⟨hd, rfl⟩ := d
  intro r h' E H locs ls hR hS hl
  exact lv_lookup hx hb hd hp ho ht (k r h' E H locs ls hR hS hl)
theorem z_ireturn (C : zC X g y cc nL lev mc ms (some .int)) {v : Int32} (hu : u.1 = u.2.2.1 ∧ u.2.1 = u.2.2.2) (d : zD cc pc .ireturn 1 pc') : ZZ X g nL u (fun v : Int32 => some (.int v)) (some (v, h)) h pc lv [.int v] := by
  obtain ⟨p, l, e, R, s, m, args, below, meth, c⟩ := X
  obtain ⟨⟨hx, hb, hml, hown, hts⟩, hr, hlk, hnm, hS0, hRf, hRl, hRc, hRs, hzs⟩ := C
  obtain ⟨hd, rfl⟩ := d
  intro r h' E H locs ls hR hS hl
  cases E
  obtain ⟨u1, u2, u3, u4⟩ := u
  obtain ⟨e1, e2⟩ := hu; dsimp only at e1 e2; subst e1; subst e2
  exact W.iret hx hb hr (fun t ht hW => ⟨rfl, by rw [ht]; exact hR, hS.F ht⟩) hS.2.2 hd hlk
/-- a small type's end: the number must be as such a type's -/
def zret (ty : FieldType) (v : Int32) (h : AH) : Option (Int32 × AH) := if narrow ty (.int v) = .int v then some (v, h) else none
theorem z_zreturn {ty : FieldType} (C : zC X g y cc nL lev mc ms (some ty)) {v : Int32} (hu : u.1 = u.2.2.1 ∧ u.2.1 = u.2.2.2) (d : zD cc pc .ireturn 1 pc') : ZZ X g nL u (fun v : Int32 => some (.int v)) (zret ty v h) h pc lv [.int v] := by
  obtain ⟨p, l, e, R, s, m, args, below, meth, c⟩ := X
  obtain ⟨⟨hx, hb, hml, hown, hts⟩, hr, hlk, hnm, hS0, hRf, hRl, hRc, hRs, hzs⟩ := C
  obtain ⟨hd, rfl⟩ := d
  intro r h' E H locs ls hR hS hl
  unfold zret at E
  split at E
  case isFalse => cases E
  case isTrue hn =>
    cases E
    obtain ⟨u1, u2, u3, u4⟩ := u
    obtain ⟨e1, e2⟩ := hu; dsimp only at e1 e2; subst e1; subst e2
    exact W.zret hx hb hr hn (fun t ht hW => ⟨rfl, by rw [ht]; exact hR, hS.F ht⟩) hS.2.2 hd hlk
theorem z_lreturn (C : zC X g y cc nL lev mc ms (some .long)) {v : Int64} (hu : u.1 = u.2.2.1 ∧ u.2.1 = u.2.2.2) (d : zD cc pc .lreturn 1 pc') : ZZ X g nL u (fun v : Int64 => some (.long v)) (some (v, h)) h pc lv [.long v] := by
  obtain ⟨p, l, e, R, s, m, args, below, meth, c⟩ := X
  obtain ⟨⟨hx, hb, hml, hown, hts⟩, hr, hlk, hnm, hS0, hRf, hRl, hRc, hRs, hzs⟩ := C
  obtain ⟨hd, rfl⟩ := d
  intro r h' E H locs ls hR hS hl
  cases E
  obtain ⟨u1, u2, u3, u4⟩ := u
  obtain ⟨e1, e2⟩ := hu; dsimp only at e1 e2; subst e1; subst e2
  exact W.lret hx hb hr (fun t ht hW => ⟨rfl, by rw [ht]; exact hR, hS.F ht⟩) hS.2.2 hd hlk
theorem z_areturn {ty : FieldType} (C : zC X g y cc nL lev mc ms (some ty)) (hty : (∃ n, ty = .object n) ∨ ∃ t, ty = .array t) {v : Nat} (hu : u.1 = u.2.2.1 ∧ u.2.1 = u.2.2.2) (d : zD cc pc .areturn 1 pc') : ZZ X g nL u (fun v : Nat => some (.ref v)) (some (v, h)) h pc lv [.ref v] := by
  obtain ⟨p, l, e, R, s, m, args, below, meth, c⟩ := X
  obtain ⟨⟨hx, hb, hml, hown, hts⟩, hr, hlk, hnm, hS0, hRf, hRl, hRc, hRs, hzs⟩ := C
  obtain ⟨hd, rfl⟩ := d
  intro r h' E H locs ls hR hS hl
  cases E
  obtain ⟨u1, u2, u3, u4⟩ := u
  obtain ⟨e1, e2⟩ := hu; dsimp only at e1 e2; subst e1; subst e2
  exact W.aret hx hb hr hty (Or.inr ⟨_, rfl⟩) (fun t ht hW => ⟨rfl, by rw [ht]; exact hR, hS.F ht⟩) hS.2.2 hd hlk
theorem z_return (C : zC X g y cc nL lev mc ms none) (hu : u.1 = u.2.2.1 ∧ u.2.1 = u.2.2.2) (d : zD cc pc .return_ 1 pc') : ZZ X g nL u (fun _ : Unit => none) (some ((), h)) h pc lv [] := by
  obtain ⟨p, l, e, R, s, m, args, below, meth, c⟩ := X
  obtain ⟨⟨hx, hb, hml, hown, hts⟩, hr, hlk, hnm, hS0, hRf, hRl, hRc, hRs, hzs⟩ := C
  obtain ⟨hd, rfl⟩ := d
  intro r h' E H locs ls hR hS hl
  cases E
  obtain ⟨u1, u2, u3, u4⟩ := u
  obtain ⟨e1, e2⟩ := hu; dsimp only at e1 e2; subst e1; subst e2
  exact W.vret hx hb hr (fun t ht hW => ⟨rfl, by rw [ht]; exact hR, hS.F ht⟩) hS.2.2 hd hlk
end
