theorem zGood {y : MethodName} {cc : ByteArray} {nL : Nat} {rt : Option FieldType} (hc : Cond.code y cc nL rt ∈ tblG) : GoodIn tblG (wq y cc nL rt) := fun w hw => by
  rcases List.mem_cons.mp hw with rfl | h
  · exact ⟨hc, good_of_word (tblG_good _ hc)⟩
  · exact ⟨h, good_of_word (tblG_good _ h)⟩
/-- a method's contract: it does as the function says -/
def zM (l : Launch) (g : zG) (y : MethodName) (cc : ByteArray) (nL : Nat) (rt : Option FieldType) (lev mc ms : Nat) {T : Type} (rv : T → Option Value) (F : Option (T × AH)) (h : AH) (As : List Value) : Prop := ∀ (r : T) (h' : AH), F = some (r, h') → Met l y (wq y cc nL rt) (rmL lev mc ms) (zPc g h As) (zQ g (rv r) h') mc ms (zA g)
theorem zM.of {l : Launch} {g : zG} {y : MethodName} {cc : ByteArray} {nL lev mc ms : Nat} {rt : Option FieldType} {T : Type} {rv : T → Option Value} {F : Option (T × AH)} {h : AH} {As : List Value} (hy : plainName y.cls = true) (hn : (lg_sl As).length ≤ nL)
    {lv0 : List (Nat × Value)} (hlv : lv_args 0 As = lv0)
    (body : ∀ X : zX, X.2.1 = l → zC X g y cc nL lev mc ms rt → ZZ X g nL (0, 0, mc, ms) rv F h 0 lv0 []) : zM l g y cc nL rt lev mc ms rv F h As := by
  subst hlv
  intro r h' E
  refine Met.ofW (cc := cc) (maxL := nL) (ret := rt) hy rfl ?_
  intro p e s m args below meth c s₁ B hml hv
  obtain ⟨rfl, hR, hS⟩ := hv
  have hts : ∀ w ∈ tblG, w.before As.toArray s = true := fun w hw => atoms_spec (ws := wq y cc nL rt) B.pre w (List.mem_cons_of_mem _ hw)
  have hl := lv_entry As (n := nL) hn
  rw [lg_entry_eq]
  exact body (p, l, e, (headSpec (wq y cc nL rt) (rmL lev mc ms)).room, s, m, As.toArray, below, meth, c) rfl ⟨⟨B.exec, B.bytes, hml, findClass_of_methodNamed B.named, hts⟩, B.returns, B.notSynchronized, (name_of_methodNamed B.named B.method).1, hS, Nat.le_refl _, Nat.le_refl _, Nat.le_refl _, Nat.le_refl _, by rw [hR.1]; exact hR.2.1⟩ r h' E s.heap [] _ hR va_S.rf hl
theorem zSub {vm : Vm} {a b : ClassId} {k : Class} (hk : vm.classes[a]? = some k) (hs : k.super = some b) : vm.isSubclass a b = true := by
  have h0 : 0 < vm.classes.size := Nat.lt_of_le_of_lt (Nat.zero_le _) (Array.getElem?_eq_some_iff.mp hk).1
  obtain ⟨n, hn⟩ := Nat.exists_eq_succ_of_ne_zero (Nat.ne_of_gt h0)
  simp [Vm.isSubclass, Vm.isSubclassAux, hk, hs]
  right
  rw [hn]
  simp [Vm.isSubclassAux]
/-- a call's run -/
def zRun (X : zX) (g : zG) (nL : Nat) (u : Nat × Nat × Nat × Nat) (mc ms : Nat) {T : Type} (rv : T → Option Value) (F : Option (T × AH)) (h : AH) (pc : Nat) (lv : List (Nat × Value)) (st rest : List Value) : Prop := match X with
  | (p, l, e, R, s, m, args, below, meth, c) => ∀ (r : T) (h' : AH), F = some (r, h') → ∀ (H : Heap) (locs : List Loc) (ls : Array Slot), zR g h H → va_S (zA g) s.heap H locs → lv_has ls nL lv → ∃ av : Array Value, va_Run p l e R s m args below meth c H locs u.1 u.2.1 mc ms (F0 m pc ls st) rest (zQ g (rv r) h' av) (zA g)
/-- behind a call: its answer and the heap -/
def zcall {α β : Type} (O : Option (α × AH)) (G : α → AH → Option β) : Option β := match O with
  | some (r, h) => G r h
  | none => none
theorem zcall_some {α β : Type} {r : α} {h : AH} {G : α → AH → Option β} : zcall (some (r, h)) G = G r h := rfl
theorem zcall_spec {α β : Type} {O : Option (α × AH)} {G : α → AH → Option β} {b : β} (E : zcall O G = some b) : ∃ r h, O = some (r, h) ∧ G r h = some b := by
  unfold zcall at E
  split at E
  · exact ⟨_, _, rfl, E⟩
  · cases E
/-- a loop, or a method that calls itself, n deep -/
def zfix {S : Type} (bot : S) (body : S → S) : Nat → S
  | 0 => bot
  | n + 1 => body (zfix bot body n)
theorem zfix_succ {S : Type} (bot : S) (body : S → S) (n : Nat) : zfix bot body (n + 1) = body (zfix bot body n) := rfl
/-- a value gets a name -/
def znm {α β : Type} (x : α) (k : α → β) : β := k x
section
variable {X : zX} {g : zG} {y y' : MethodName} {cc cc' : ByteArray} {nL nL' lev lev' mc ms mc' ms' n : Nat} {rt rt' : Option FieldType} {u : Nat × Nat × Nat × Nat} {T Tc : Type} {rv : T → Option Value} {rvc : Tc → Option Value} {F : Option (T × AH)} {Fc : Option (Tc × AH)} {h : AH} {pc pc' i : Nat} {lv : List (Nat × Value)} {st rest As : List Value} {b : Nat}
theorem z_call {G : Tc → AH → Option (T × AH)} (run : zRun X g nL u mc' ms' rvc Fc h pc lv st rest) (hp : pc + 3 = pc') (kk : ∀ (r1 : Tc) (h1 : AH), ZZ X g nL (u.1 + mc', u.2.1 + ms', u.2.2) rv (G r1 h1) h1 pc' lv ((rvc r1).toList ++ rest)) : ZZ X g nL u rv (zcall Fc G) h pc lv st := by
  obtain ⟨p, l, e, R, s, m, args, below, meth, c⟩ := X
  subst hp
  intro r h' E H locs ls hR hS hl
  obtain ⟨r1, h1, hc, E⟩ := zcall_spec E
  obtain ⟨av, hrun⟩ := run r1 h1 hc H locs ls hR hS hl
  intro T hT X
  obtain ⟨v, st₀, t, T', L, h0, X', hL, e1, e2, ⟨hv, hz, hF⟩, step⟩ := hrun T hT X
  cases hv
  unfold va_F at hF
  rw [h0] at hF
  obtain ⟨t2, a1, b1⟩ := kk r1 h1 r h' E T'.heap (locs ++ L) ls (by rw [e1]; exact hz)
    ⟨Nat.le_trans hS.1 (by rw [e1]; exact hF.1), fun q h1 h2 => by rw [e1, hF.2 q (Nat.lt_of_lt_of_le h1 hS.1) h2]; exact hS.2.1 q h1 h2, fun q hq => by
      rcases List.mem_append.mp hq with h | h
      · exact hS.2.2 q h
      · exact hL q h⟩ hl T' rfl X'
  exact ⟨t2, step t2 a1, b1⟩
theorem z_calli {Fc : Option (Int32 × AH)} {G : Int32 → AH → Option (T × AH)} (run : zRun X g nL u 0 0 (fun v : Int32 => some (.int v)) Fc h pc lv st rest) (hp : pc + 3 = pc') (kk : ∀ (r1 : Int32) (h1 : AH), ZZ X g nL u rv (G r1 h1) h1 pc' lv (.int r1 :: rest)) : ZZ X g nL u rv (zcall Fc G) h pc lv st := z_call run hp kk
theorem z_calll {Fc : Option (Int64 × AH)} {G : Int64 → AH → Option (T × AH)} (run : zRun X g nL u 0 0 (fun v : Int64 => some (.long v)) Fc h pc lv st rest) (hp : pc + 3 = pc') (kk : ∀ (r1 : Int64) (h1 : AH), ZZ X g nL u rv (G r1 h1) h1 pc' lv (.long r1 :: rest)) : ZZ X g nL u rv (zcall Fc G) h pc lv st := z_call run hp kk
theorem z_callr {Fc : Option (Nat × AH)} {G : Nat → AH → Option (T × AH)} (run : zRun X g nL u 0 0 (fun v : Nat => some (.ref v)) Fc h pc lv st rest) (hp : pc + 3 = pc') (kk : ∀ (r1 : Nat) (h1 : AH), ZZ X g nL u rv (G r1 h1) h1 pc' lv (.ref r1 :: rest)) : ZZ X g nL u rv (zcall Fc G) h pc lv st := z_call run hp kk
theorem z_callv {Fc : Option (Unit × AH)} {G : Unit → AH → Option (T × AH)} (run : zRun X g nL u 0 0 (fun _ : Unit => none) Fc h pc lv st rest) (hp : pc + 3 = pc') (kk : ∀ (r1 : Unit) (h1 : AH), ZZ X g nL u rv (G r1 h1) h1 pc' lv rest) : ZZ X g nL u rv (zcall Fc G) h pc lv st := z_call run hp kk
/-- what the tables say for a call: static; on an object of the named kind; on another that has it or overrides it; super -/
def zKd (y' : MethodName) (n : Nat) : Prop := y'.cls ≠ "java/lang/invoke/MethodHandle" ∧ y'.cls ≠ "java/lang/invoke/VarHandle" ∧ (parseMethodDescriptor y'.desc).map (fun d => d.parameters.length) = some n
def zKS (own : String) (i : Nat) (y' : MethodName) (cc' : ByteArray) (nL' : Nat) (rt' : Option FieldType) (n : Nat) : Prop := Cond.methodLink own i y' ∈ tblG ∧ Cond.static y' ∈ tblG ∧ Cond.initialized y'.cls ∈ tblG ∧ Cond.code y' cc' nL' rt' ∈ tblG ∧ nL' ≤ 80 ∧ zKd y' n
def zKV (own : String) (i ci : Nat) (y' : MethodName) (cc' : ByteArray) (nL' : Nat) (rt' : Option FieldType) (n : Nat) : Prop := (∃ T N, vwCl[ci]? = some (y'.cls, T, N)) ∧ Cond.methodLink own i y' ∈ tblG ∧ Cond.instanceMethod y' ∈ tblG ∧ Cond.selects y'.cls y' y' ∈ tblG ∧ Cond.initialized y'.cls ∈ tblG ∧ Cond.code y' cc' nL' rt' ∈ tblG ∧ nL' ≤ 80 ∧ zKd y' n
def zKU (own : String) (i ci : Nat) (C owner : String) (x y' : MethodName) (cc' : ByteArray) (nL' : Nat) (rt' : Option FieldType) (n : Nat) : Prop := (∃ T N, vwCl[ci]? = some (C, T, N)) ∧ Cond.methodLink own i x ∈ tblG ∧ Cond.sameMethod x.cls owner x.name x.desc ∈ tblG ∧ Cond.instanceMethod ⟨owner, x.name, x.desc⟩ ∈ tblG ∧ (∃ b0 m0 r0, Cond.code ⟨owner, x.name, x.desc⟩ b0 m0 r0 ∈ tblG) ∧ Cond.selects C x y' ∈ tblG ∧ Cond.instanceMethod y' ∈ tblG ∧ Cond.initialized y'.cls ∈ tblG ∧ Cond.code y' cc' nL' rt' ∈ tblG ∧ nL' ≤ 80 ∧ owner ≠ "java/lang/invoke/MethodHandle" ∧ owner ≠ "java/lang/invoke/VarHandle" ∧ (parseMethodDescriptor x.desc).map (fun d => d.parameters.length) = some n
def zKP (own : String) (i : Nat) (x y' : MethodName) (cc' : ByteArray) (nL' : Nat) (rt' : Option FieldType) (n : Nat) : Prop := Cond.methodLink own i x ∈ tblG ∧ Cond.sameMethod x.cls y'.cls x.name x.desc ∈ tblG ∧ Cond.superclass own x.cls ∈ tblG ∧ (x.cls = y'.cls ∨ Cond.superclass x.cls y'.cls ∈ tblG) ∧ y' = ⟨y'.cls, x.name, x.desc⟩ ∧ Cond.instanceMethod y' ∈ tblG ∧ Cond.initialized y'.cls ∈ tblG ∧ Cond.code y' cc' nL' rt' ∈ tblG ∧ nL' ≤ 80 ∧ y'.name ≠ "<init>" ∧ (parseMethodDescriptor y'.desc).map (fun d => d.parameters.length) = some n
theorem z_pre {p : Program} {l : Launch} {e : Env} {s : State} {H : Heap} {locs : List Loc} (hS0 : zS g s) (hR : zR g h H) (hS : va_S (zA g) s.heap H locs) : PreS s H (zPc g h As) As := ⟨zPc.blind, fun U hU hW => ⟨rfl, by rw [hU]; exact hR, hS0.moved hW (fun a h1 h2 => by rw [hU]; exact hS.2.1 a h1 h2)⟩⟩
theorem z_room {R : Room} (hRf : lev ≤ R.frames) (hRl : 100 * lev ≤ R.locals) (hlev : lev' + 1 ≤ lev) (hn : nL' ≤ 80) : (rmL lev' mc' ms').frames + 1 ≤ R.frames ∧ 8 + (nL' + 11) + (rmL lev' mc' ms').locals ≤ R.locals := by
  refine ⟨Nat.le_trans hlev hRf, ?_⟩
  show 8 + (nL' + 11) + 100 * lev' ≤ R.locals
  omega
theorem z_runS (C : zC X g y cc nL lev mc ms rt) (kw : zKS y.cls i y' cc' nL' rt' n) (M : zM X.2.1 g y' cc' nL' rt' lev' mc' ms' rvc Fc h As) (hlev : lev' + 1 ≤ lev) (hcs : u.1 + mc' ≤ mc ∧ u.2.1 + ms' ≤ ms) (d : zD cc pc (.invokestatic i) 3 pc') (hn : As.length = n) (hst : st = As.reverse ++ rest) (hW : (rest.map fun v => v.category).sum ≤ 8) : zRun X g nL u mc' ms' rvc Fc h pc lv st rest := by
  obtain ⟨p, l, e, R, s, m, args, below, meth, c⟩ := X
  obtain ⟨⟨hx, hb, hml, hown, hts⟩, hr, hlk, hnm, hS0, hRf, hRl, hRc, hRs, hzs⟩ := C
  obtain ⟨hd, -⟩ := d
  obtain ⟨k1, k2, k3, k4, k5, k6⟩ := kw
  intro r h' E H locs ls hR hS hl
  refine ⟨As.toArray, ?_⟩
  exact va_runS (Ts := tblG) (As := As) (rest := rest) ⟨hx, hb, hml, hown, hts⟩ (M r h' E) ⟨callB_of n hts (zGood k4) rfl rfl rfl (hts _ k3) (hts _ k1) k6 (z_room hRf hRl hlev k5), hts _ k2⟩ (z_pre (p := p) (l := l) (e := e) hS0 hR hS) rfl hn hl.1 hst (lv_room hW) hd ⟨Nat.le_trans hcs.1 hRc, Nat.le_trans hcs.2 hRs⟩
theorem z_runV (C : zC X g y cc nL lev mc ms rt) {ci : Nat} (kw : zKV y.cls i ci y' cc' nL' rt' n) (M : zM X.2.1 g y' cc' nL' rt' lev' mc' ms' rvc Fc h (.ref b :: As)) (hb0 : zis h b ci = some ()) (hlev : lev' + 1 ≤ lev) (hcs : u.1 + mc' ≤ mc ∧ u.2.1 + ms' ≤ ms) (d : zD cc pc (.invokevirtual i) 3 pc') (hn : As.length = n) (hst : st = As.reverse ++ .ref b :: rest) (hW : (rest.map fun v => v.category).sum ≤ 8) : zRun X g nL u mc' ms' rvc Fc h pc lv st rest := by
  obtain ⟨p, l, e, R, s, m, args, below, meth, c⟩ := X
  obtain ⟨⟨hx, hb, hml, hown, hts⟩, hr, hlk, hnm, hS0, hRf, hRl, hRc, hRs, hzs⟩ := C
  obtain ⟨hd, -⟩ := d
  obtain ⟨⟨T0, N0, k0⟩, k1, k2, k3, k4, k5, k6, k7⟩ := kw
  intro r h' E H locs ls hR hS hl
  obtain ⟨fs, he⟩ := zis_spec hb0
  refine ⟨(Value.ref b :: As).toArray, ?_⟩
  have hp := z_pre (p := p) (l := l) (e := e) (As := .ref b :: As) hS0 hR hS
  exact va_runV (Ts := tblG) (As := As) (rest := rest) ⟨hx, hb, hml, hown, hts⟩ (M r h' E) ⟨callB_of n hts (zGood k5) rfl rfl rfl (hts _ k4) (hts _ k1) k7 (z_room hRf hRl hlev k6), hts _ k2, hts _ k3⟩ ⟨hp.1, hR.recv hS0.1 k0 he, hp.2⟩ rfl hn hl.1 hst (lv_room hW) hd ⟨Nat.le_trans hcs.1 hRc, Nat.le_trans hcs.2 hRs⟩
theorem z_runU (C : zC X g y cc nL lev mc ms rt) {ci : Nat} {C0 owner : String} {x : MethodName} (kw : zKU y.cls i ci C0 owner x y' cc' nL' rt' n) (M : zM X.2.1 g y' cc' nL' rt' lev' mc' ms' rvc Fc h (.ref b :: As)) (hb0 : zis h b ci = some ()) (hlev : lev' + 1 ≤ lev) (hcs : u.1 + mc' ≤ mc ∧ u.2.1 + ms' ≤ ms) (d : zD cc pc (.invokevirtual i) 3 pc') (hn : As.length = n) (hst : st = As.reverse ++ .ref b :: rest) (hW : (rest.map fun v => v.category).sum ≤ 8) : zRun X g nL u mc' ms' rvc Fc h pc lv st rest := by
  obtain ⟨p, l, e, R, s, m, args, below, meth, c⟩ := X
  obtain ⟨⟨hx, hb, hml, hown, hts⟩, hr, hlk, hnm, hS0, hRf, hRl, hRc, hRs, hzs⟩ := C
  obtain ⟨hd, -⟩ := d
  obtain ⟨⟨T0, N0, k0⟩, k1, k2, k3, ⟨b0, m0, r0, k4⟩, k5, k6, k7, k8, k9, d1, d2, d3⟩ := kw
  intro r h' E H locs ls hR hS hl
  obtain ⟨fs, he⟩ := zis_spec hb0
  refine ⟨(Value.ref b :: As).toArray, ?_⟩
  have hp := z_pre (p := p) (l := l) (e := e) (As := .ref b :: As) hS0 hR hS
  have hG := zGood k8
  have hrm := z_room (mc' := mc') (ms' := ms') hRf hRl hlev k9
  have cw : va_CU R s args y.cls C0 owner i x y' cc' nL' rt' (wq y' cc' nL' rt') (rmL lev' mc' ms') mc' ms' n := by
    refine ⟨⟨rfl, rfl, hrm.1, hrm.2, pay_in hts hG, List.mem_cons_self⟩, hts _ k8, hts _ k7, ⟨d1, d2⟩, fun sig h => ?_, hts _ k1, hts _ k2, va_Decl.of (hts _ k3) (hts _ k4), hts _ k5, hts _ k6⟩
    rw [h] at d3
    exact (Option.some.inj d3).symm
  exact va_runU (Ts := tblG) (As := As) (rest := rest) ⟨hx, hb, hml, hown, hts⟩ (M r h' E) cw ⟨hp.1, hR.recv hS0.1 k0 he, hp.2⟩ rfl hn hl.1 hst (lv_room hW) hd ⟨Nat.le_trans hcs.1 hRc, Nat.le_trans hcs.2 hRs⟩
theorem z_runP (C : zC X g y cc nL lev mc ms rt) {x : MethodName} (kw : zKP y.cls i x y' cc' nL' rt' n) (M : zM X.2.1 g y' cc' nL' rt' lev' mc' ms' rvc Fc h (.ref b :: As)) {ci : Nat} (hb0 : zkind h b = some ci) (hlev : lev' + 1 ≤ lev) (hcs : u.1 + mc' ≤ mc ∧ u.2.1 + ms' ≤ ms) (d : zD cc pc (.invokespecial i) 3 pc') (hn : As.length = n) (hst : st = As.reverse ++ .ref b :: rest) (hW : (rest.map fun v => v.category).sum ≤ 8) : zRun X g nL u mc' ms' rvc Fc h pc lv st rest := by
  obtain ⟨p, l, e, R, s, m, args, below, meth, c⟩ := X
  obtain ⟨⟨hx, hb, hml, hown, hts⟩, hr, hlk, hnm, hS0, hRf, hRl, hRc, hRs, hzs⟩ := C
  obtain ⟨hd, -⟩ := d
  obtain ⟨k1, k2, k3, k4, k5, k6, k7, k8, k9, hno, d3⟩ := kw
  intro r h' E H locs ls hR hS hl
  obtain ⟨fs, he⟩ := zkind_spec hb0
  refine ⟨(Value.ref b :: As).toArray, ?_⟩
  have hp := z_pre (p := p) (l := l) (e := e) (As := .ref b :: As) hS0 hR hS
  have hG := zGood k8
  have hrm := z_room (mc' := mc') (ms' := ms') hRf hRl hlev k9
  obtain ⟨q0, hq0, -⟩ := (hR.2.2 b _ he).1
  obtain ⟨cellB, hcB, hoB, hclB⟩ := hR.recv hS0.1 hq0 he
  obtain ⟨kB, hkB, -⟩ := Vm.findClass_spec hclB
  have hK : Back l R p e below s args y' 3 8 (PreOf R mc' ms' (zPc g h (.ref b :: As))) (PostOf (zQ g (rvc r) h') mc' ms' (zA g)) := back_of (bytes := cc') (maxL := nL') (ret := rt') (M r h' E) zPc.blind rfl rfl hrm.1 hrm.2 (pay_in hts hG) List.mem_cons_self (fun a' U hW => word_at hW (Or.inl (by first | rfl | simp [Cond.onTables, Cond.keeps, Cond.steady])) (hts _ k7))
  obtain ⟨mk, methM, hnamed, hmethM, hstM, habM⟩ := Cond.instanceMethod_spec (hts _ k6)
  obtain ⟨methM', cM, hmethM', -, -, -, -, -, -, hsigM⟩ := Cond.code_spec hnamed (hts _ k8)
  cases hmethM.symm.trans hmethM'
  obtain ⟨ps, dk, kp, hps, hdk, hkp, hsuper, -, -, hnid⟩ := Cond.superclass_spec hown (hts _ k3)
  have hnm2 : s.methodNamed? ⟨y'.cls, x.name, x.desc⟩ = some mk := by rw [← k5]; exact hnamed
  have hmc := findClass_of_methodNamed hnamed
  have hsub : s.vm.isSubclass ps mk.cls = true := by
    rcases k4 with k4 | k4
    · have hpm : ps = mk.cls := Option.some.inj (hps.symm.trans (by rw [k4]; exact hmc))
      rw [hpm]; simp [Vm.isSubclass, Vm.isSubclassAux]
    · obtain ⟨ps2, dk2, kp2, hps2, hdk2, hkp2, hsuper2, -⟩ := Cond.superclass_spec hps (hts _ k4)
      have hpm : ps2 = mk.cls := Option.some.inj (hps2.symm.trans hmc)
      subst hpm
      exact zSub hdk2 hsuper2
  have hxn : x.name ≠ "<init>" := by
    have h1 : y'.name = x.name := by rw [k5]
    rw [← h1]; exact hno
  intro T hT Xs
  obtain ⟨vm₁, X₁, hstep₁⟩ := Xs.invokespecialUp hx hown (hts _ k1) (hts _ k2) hnm2 hmethM hstM habM hxn hdk hnid hps hsuper hsub (a := b) (cell := cellB) (by rw [hT]; exact hcB)
    (fun z h => by rw [h] at hoB; cases hoB) hkB (g := F0 m pc ls st) rfl (argsL := As) (rest := rest) (by rw [hn]; rw [hsigM] at d3; exact (Option.some.inj d3).symm) hst (by rw [hb]; exact hd)
  obtain ⟨v, ⟨U', l2, c2, s2⟩, X', ⟨g', mk', t, L, e1, e2, hq, h1, hL, h2, h3⟩, hsteps⟩ := hK m meth c ⟨T.setVm vm₁, locs, u.1, u.2.1⟩ { F0 m pc ls st with stack := rest } (.invokespecial i) mk (Value.ref b :: As).toArray X₁ rfl (hl.1.trans hml.symm) (by rw [hb]; exact hd) (lv_room hW) (X₁.named hnamed) ⟨Nat.le_trans hcs.1 hRc, Nat.le_trans hcs.2 hRs, hp.2 (T.setVm vm₁) hT X₁.warmed⟩
  dsimp only [Pt.U, Pt.locs, Pt.cells, Pt.slots] at X' e1 e2 h1 h2 h3 hsteps
  subst h1; subst h2; subst h3
  exact ⟨v, (T.setVm vm₁).calling g' mk' (Value.ref b :: As).toArray, t, U', L, hT, X', hL, e1, e2, hq, fun target h => hstep₁ _ (by rw [doInvoke_state]; exact hsteps.trans h)⟩
theorem zRun_none : zRun X g nL u mc' ms' rvc none h pc lv st rest := by
  obtain ⟨p, l, e, R, s, m, args, below, meth, c⟩ := X
  intro r h' E
  cases E
theorem zRun_ite {q : Prop} [Decidable q] {A B : Option (Tc × AH)} (ha : q → zRun X g nL u mc' ms' rvc A h pc lv st rest) (hb : ¬ q → zRun X g nL u mc' ms' rvc B h pc lv st rest) : zRun X g nL u mc' ms' rvc (if q then A else B) h pc lv st rest := by
  by_cases hq : q
  · rw [if_pos hq]; exact ha hq
  · rw [if_neg hq]; exact hb hq
theorem zRun_bind {α : Type} {O : Option α} {G : α → Option (Tc × AH)} (k : ∀ v, O = some v → zRun X g nL u mc' ms' rvc (G v) h pc lv st rest) : zRun X g nL u mc' ms' rvc (O.bind G) h pc lv st rest := by
  cases hO : O with
  | none => exact zRun_none
  | some v => exact k v hO
theorem z_nmI {x : Int32} {k : Int32 → Option (T × AH)} (kk : ∀ v : Int32, ZZ X g nL u rv (k v) h pc lv (.int v :: st)) : ZZ X g nL u rv (znm x k) h pc lv (.int x :: st) := kk x
theorem z_nmL {x : Int64} {k : Int64 → Option (T × AH)} (kk : ∀ v : Int64, ZZ X g nL u rv (k v) h pc lv (.long v :: st)) : ZZ X g nL u rv (znm x k) h pc lv (.long x :: st) := kk x
end
