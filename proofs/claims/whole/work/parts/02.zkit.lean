/-! The calculus of this proof: a method is held against a plain function over an abstract heap. -/
def tblG : List Cond := lw_tbl.filter goodWord
theorem tblG_mem {w : Cond} (h : w ∈ lw_tbl) (hg : goodWord w = true) : w ∈ tblG := List.mem_filter.mpr ⟨h, hg⟩
theorem tblG_at {w : Cond} (i : Nat) (h : lw_tbl[i]? = some w) (hg : goodWord w = true) : w ∈ tblG := tblG_mem (List.mem_of_getElem? h) hg
theorem tblG_good : ∀ w ∈ tblG, goodWord w = true := fun _ h => (List.mem_filter.mp h).2
/-- an abstract heap: the size of the heap; what each of our cells holds (arrays by a tag in the place of their number) -/
abbrev AH : Type := Nat × (Nat → Option va_E)
/-- what the launch fixes: numbers of classes and slots, of array classes, addresses of the texts and of their bytes, the first of our cells -/
abbrev zG : Type := va_G × (Nat → ClassId) × (Nat → Nat) × (Nat → Nat) × Nat
def zE (g : zG) (e : va_E) : va_E := match e with
  | .inl (t, x) => .inl (g.2.1 t, x)
  | .inr o => .inr o
def zA (g : zG) : Nat → Prop := fun q => g.2.2.2.2 ≤ q
def zR (g : zG) (h : AH) (H : Heap) : Prop := H.size = h.1 ∧ g.2.2.2.2 ≤ h.1 ∧ ∀ (a : Nat) (e : va_E), h.2 a = some e → va_at g.1 vwCl (a, zE g e) H ∧ zA g a
def zTys (g : zG) : List (ClassId × FieldType) := [(g.2.1 0, .int), (g.2.1 1, .byte), (g.2.1 2, .char), (g.2.1 3, .long), (g.2.1 4, .object "ButlerRemembers$House"), (g.2.1 5, .object "ButlerRemembers$Master"), (g.2.1 6, .object "ButlerRemembers$Tape"), (g.2.1 7, .array .int)]
/-- the texts: who names it, its entry, itself -/
def zTx : List (String × Nat × String) := [("ButlerRemembers$House", 73, "hours "), ("ButlerRemembers$House", 82, "keep "), ("ButlerRemembers$House", 84, "lose "), ("ButlerRemembers$House", 86, " "), ("ButlerRemembers$House", 105, ")"), ("ButlerRemembers$House", 107, "pkvfds"), ("ButlerRemembers$House", 113, "<=>")]
def zLen : List Nat := [6, 5, 5, 1, 1, 6, 3]
def zByt : List (List Int32) := [[104, 111, 117, 114, 115, 32], [107, 101, 101, 112, 32], [108, 111, 115, 101, 32], [32], [41], [112, 107, 118, 102, 100, 115], [60, 61, 62]]
def zIsNest (w : Cond) : Bool := match w with
  | .methodLinkNest .. => true
  | _ => false
def zNest : List Cond := lw_tbl.filter zIsNest
def zAOA (U : State) : Prop := (Cond.arrayOver (.array .int)).before #[] U = true
/-- of the seven kinds: which is no other's -/
def zNo : List (String × String) := (["ButlerRemembers$Bishop", "ButlerRemembers$Cousin", "ButlerRemembers$Daughter", "ButlerRemembers$Duchess", "ButlerRemembers$Heir", "ButlerRemembers$Master", "ButlerRemembers$Told"].flatMap fun c => ["ButlerRemembers$Bishop", "ButlerRemembers$Cousin", "ButlerRemembers$Daughter", "ButlerRemembers$Duchess", "ButlerRemembers$Heir", "ButlerRemembers$Told"].map fun d => (c, d)).filter fun q => !(q.1 == q.2) && !(q == ("ButlerRemembers$Bishop", "ButlerRemembers$Heir")) && !(q == ("ButlerRemembers$Daughter", "ButlerRemembers$Duchess")) && !(q == ("ButlerRemembers$Told", "ButlerRemembers$Cousin"))
def zStr (g : zG) (U : State) : Prop :=
  vk_S 7 zLen zByt g.2.2.1 g.2.2.2.1 (zA g) U U.heap ∧
  (∀ (i : Nat) (q : String × Nat × String), zTx[i]? = some q → vk_R q.1 q.2.1 q.2.2 (g.2.2.1 i) U) ∧
  va_Z "java/lang/String" "COMPACT_STRINGS" "Z" (.int 1) (zA g) U U.heap ∧
  va_Zq "jdk/internal/util/Preconditions" "SIOOBE_FORMATTER" "Ljava/util/function/BiFunction;" (zA g) U U.heap ∧
  (∀ w ∈ zNest, va_Nw w U) ∧ (∀ C ∈ ["ButlerRemembers$House", "ButlerRemembers$Master", "ButlerRemembers$Tape"], va_AO C U) ∧ zAOA U ∧
  (∀ q ∈ zNo, va_Nc q.1 q.2 U) ∧ (∀ q ∈ [("ButlerRemembers$Bishop", "ButlerRemembers$Heir"), ("ButlerRemembers$Daughter", "ButlerRemembers$Duchess"), ("ButlerRemembers$Told", "ButlerRemembers$Cousin"), ("ButlerRemembers$Heir", "ButlerRemembers$Master"), ("ButlerRemembers$Duchess", "ButlerRemembers$Master"), ("ButlerRemembers$Cousin", "ButlerRemembers$Master"), ("ButlerRemembers$Bishop", "ButlerRemembers$Master"), ("ButlerRemembers$Daughter", "ButlerRemembers$Master"), ("ButlerRemembers$Told", "ButlerRemembers$Master")], va_Nw (.castable q.1 q.2) U)
def zS (g : zG) (U : State) : Prop := va_K g.1 vwCl (zTys g) U ∧ zStr g U
theorem zAOA.spec {s : State} (h : zAOA s) : ∃ comp c k, s.vm.findClass (FieldType.array .int).toString = some comp ∧ (s.vm.classes.findIdx? fun (x : Class) => match x.kind with | .array component _ => component == comp | _ => false) = some c ∧ s.vm.classes[c]? = some k ∧ k.kind = .array comp (.array .int) ∧ s.vm.findClass ("[" ++ (FieldType.array .int).toString) = some c := by
  unfold zAOA Cond.before Cond.holds at h
  simp only [Cond.value, beq_iff_eq] at h
  cases hc : s.vm.findClass (FieldType.array .int).toString with
  | none => simp [hc] at h
  | some comp =>
    simp only [hc, Option.bind_some, Option.bind_eq_some_iff, Option.map_eq_some_iff] at h
    obtain ⟨c, hi, k, hk, hb⟩ := h
    obtain ⟨hlt, hp, -⟩ := Array.findIdx?_eq_some_iff_getElem.mp hi
    have hkk : s.vm.classes[c] = k := (Array.getElem?_eq_some_iff.mp hk).2
    rw [hkk] at hp
    refine ⟨comp, c, k, rfl, hi, hk, ?_⟩
    cases hkind : k.kind with
    | array component ty =>
      simp only [hkind, Bool.and_eq_true, decide_eq_true_eq, beq_iff_eq] at hb hp
      exact ⟨by rw [hp, hb.1], hb.2⟩
    | _ => simp [hkind] at hb
theorem zAOA.moved {u U : State} (hvm : u.vm.Alike U.vm) (h : zAOA u) : zAOA U := by
  obtain ⟨comp, c, k, h1, h2, h3, h4, h5⟩ := h.spec
  obtain ⟨k', hk', he⟩ := hvm.2.2 _ _ h3
  have e1 := va_idx_bare U.vm comp
  have e2 := va_idx_bare u.vm comp
  have e3 : U.vm.bare = u.vm.bare := by first | exact hvm.bare_eq | exact hvm.bare_eq.symm
  rw [e3] at e1
  have hi := e1.symm.trans (e2.trans h2)
  have hkind : k'.kind = .array comp (.array .int) := by rw [he]; exact h4
  have f1 : U.vm.findClass (FieldType.array .int).toString = some comp := by rw [hvm.findClass]; exact h1
  have f2 : U.vm.findClass ("[" ++ (FieldType.array .int).toString) = some c := by rw [hvm.findClass]; exact h5
  unfold zAOA Cond.before Cond.holds
  simp only [Cond.value]
  rw [f1, Option.bind_some]
  refine (congrArg (fun o : Option Nat => (o.bind (fun c => (U.vm.classes[c]?).map fun (k : Class) => match k.kind with | .array _ ty => decide (ty = FieldType.array .int) && decide (U.vm.findClass ("[" ++ (FieldType.array .int).toString) = some c) | _ => false) == some true)) hi).trans ?_
  simp [hk', hkind, f2]
theorem zStr.moved {g : zG} {s U : State} (hW : s.WarmedH U.vm) (hq : ∀ a : Nat, a < s.heap.size → ¬ zA g a → U.heap[a]? = s.heap[a]?) (h : zStr g s) : zStr g U := by
  obtain ⟨h1, h2, h3, h4, h5, h6, h7, h8, h9⟩ := h
  refine ⟨(h1.moved hW.alike).kept hq, fun i q hi => (h2 i q hi).warm hW, (h3.moved hW.alike).kept hq, (h4.moved hW.alike).kept hq, fun w hw => ?_, fun C hC => (h6 C hC).moved hW.alike, h7.moved hW.alike, fun q hq' => (h8 q hq').moved hW.alike, fun q hq' => (h9 q hq').warmC hW⟩
  have hn : zIsNest w = true := (List.mem_filter.mp hw).2
  have h0 := h5 w hw
  cases w <;> first | exact va_Nw.warmM hW h0 | (simp [zIsNest] at hn; done)
theorem zS.moved {g : zG} {s U : State} (hW : s.WarmedH U.vm) (hq : ∀ a : Nat, a < s.heap.size → ¬ zA g a → U.heap[a]? = s.heap[a]?) (h : zS g s) : zS g U := ⟨h.1.moved hW.alike, h.2.moved hW hq⟩
theorem zS.calling {g : zG} {U : State} {f : JFrame} {mk : MethodId} {a : Array Value} (h : zS g U) : zS g (U.calling f mk a) := by
  obtain ⟨h0, h1, h2, h3, h4, h5, h6, h7, h8, h9⟩ := h
  refine ⟨h0.moved (Vm.Alike.refl U.vm), h1.moved (Vm.Alike.refl U.vm), fun i q hi => (h2 i q hi).same rfl, h3.moved (Vm.Alike.refl U.vm), h4.moved (Vm.Alike.refl U.vm), fun w hw => ?_, fun C hC => (h6 C hC).moved (Vm.Alike.refl U.vm), h7.moved (Vm.Alike.refl U.vm), fun q hq' => (h8 q hq').moved (Vm.Alike.refl U.vm), fun q hq' => (h9 q hq').same rfl rfl⟩
  have hn : zIsNest w = true := (List.mem_filter.mp hw).2
  have h0 := h5 w hw
  cases w <;> first | exact va_Nw.same rfl rfl h0 | (simp [zIsNest] at hn; done)
/-- a method's start and end -/
def zPc (g : zG) (h : AH) (As : List Value) : Array Value → State → Prop := fun v U => v = As.toArray ∧ zR g h U.heap ∧ zS g U
def zQ (g : zG) (r : Option Value) (h' : AH) : Array Value → State → Outcome → State → Prop := fun _ st oc t => oc = .returned r ∧ zR g h' t.heap ∧ va_F (zA g) st t
theorem zPc.blind {g : zG} {h : AH} {As : List Value} : FrameBlind (zPc g h As) := fun _ _ _ _ q => ⟨q.1, q.2.1, q.2.2.calling⟩
/-- the machine at a method: all that stays the same within it -/
abbrev zX : Type := Program × Launch × Env × Room × State × MethodId × Array Value × List Frame × Method × Code
/-- an instruction at its place, and the next one's -/
def zD (cc : ByteArray) (pc : Nat) (i : Instr) (n pc' : Nat) : Prop := decode cc pc = .ok (i, n) ∧ pc + n = pc'
def zC (X : zX) (g : zG) (y : MethodName) (cc : ByteArray) (nL lev mc ms : Nat) (rt : Option FieldType) : Prop := match X with
  | (p, _, _, R, s, m, args, _, meth, c) => (p.tables.exec = Jvm.exec ∧ c.code = cc ∧ c.maxLocals = nL ∧ s.vm.findClass y.cls = some m.cls ∧ ∀ w ∈ tblG, w.before args s = true) ∧ meth.sig.returnType = rt ∧ meth.locks = false ∧ meth.name = y.name ∧ zS g s ∧ lev ≤ R.frames ∧ 100 * lev ≤ R.locals ∧ mc ≤ R.cells ∧ ms ≤ R.slots ∧ g.2.2.2.2 ≤ s.heap.size
def ZZ (X : zX) (g : zG) (nL : Nat) (u : Nat × Nat × Nat × Nat) {T : Type} (rv : T → Option Value) (F : Option (T × AH)) (h : AH) (pc : Nat) (lv : List (Nat × Value)) (st : List Value) : Prop := match X with
  | (p, l, e, R, s, m, args, below, meth, c) => ∀ (r : T) (h' : AH), F = some (r, h') → ∀ (H : Heap) (locs : List Loc) (ls : Array Slot), zR g h H → va_S (zA g) s.heap H locs → lv_has ls nL lv → W p l e R s m args below meth c H locs u.1 u.2.1 (MQ below (zQ g (rv r) h') args s u.2.2.1 u.2.2.2 (zA g)) (F0 m pc ls st)
/-- the words of a method -/
def wq (y : MethodName) (cc : ByteArray) (nL : Nat) (rt : Option FieldType) : List Cond := .code y cc nL rt :: tblG
def rmL (lev mc ms : Nat) : Room := { frames := lev, cells := mc, slots := ms, locals := 100 * lev }
theorem z_met {l : Launch} {g : zG} {y : MethodName} {cc : ByteArray} {nL lev mc ms : Nat} {rt : Option FieldType} {T : Type} {rv : T → Option Value} {F : Option (T × AH)} {h h' : AH} {r : T} {As : List Value} (hy : plainName y.cls = true) (E : F = some (r, h')) (hn : (lg_sl As).length ≤ nL)
    (body : ∀ X : zX, zC X g y cc nL lev mc ms rt → ZZ X g nL (0, 0, mc, ms) rv F h 0 (lv_args 0 As) []) : Met l y (wq y cc nL rt) (rmL lev mc ms) (zPc g h As) (zQ g (rv r) h') mc ms (zA g) := by
  refine Met.ofW (cc := cc) (maxL := nL) (ret := rt) hy rfl ?_
  intro p e s m args below meth c s₁ B hml hv
  obtain ⟨rfl, hR, hS⟩ := hv
  have hts : ∀ w ∈ tblG, w.before As.toArray s = true := fun w hw => atoms_spec (ws := wq y cc nL rt) B.pre w (List.mem_cons_of_mem _ hw)
  have hl := lv_entry As (n := nL) hn
  rw [lg_entry_eq]
  exact body (p, l, e, (headSpec (wq y cc nL rt) (rmL lev mc ms)).room, s, m, As.toArray, below, meth, c) ⟨⟨B.exec, B.bytes, hml, findClass_of_methodNamed B.named, hts⟩, B.returns, B.notSynchronized, (name_of_methodNamed B.named B.method).1, hS, Nat.le_refl _, Nat.le_refl _, Nat.le_refl _, Nat.le_refl _, by rw [hR.1]; exact hR.2.1⟩ r h' E s.heap [] _ hR va_S.rf hl
