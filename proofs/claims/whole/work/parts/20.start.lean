/-! THE CLAIM OUT OF ONE WALK OF THE LAW'S BODY. Your part is whole_start (and what it stands on); all else here is the same for every law, but numbers. -/
def R_law : String := "ButlerRemembersLaw"
def lw_P (b : Addr) (xs : List Int32) (args : Array Value) (s : State) : Prop := args = #[.ref b] ∧ s.IntsAt b xs ∧ xs.length ≤ 3072 ∧ (Jvm.Cond.and given_1 narrow_1).before args s = true
def lw_Q (_ : Array Value) (s : State) (o : Outcome) (t : State) : Prop := o = .returned (some (.int 1)) ∧ Framed s o t [] 600000 7302250
def lw_Z (below : List Frame) (a : Array Value) (s : State) : State → Prop := fun t => ∃ o, t.status = .running ∧ Ended t below o ∧ lw_Q a s o t
/-- the law's own end, with 1 on the stack, nothing written that was there before, its room as the claim has it -/
theorem lw_ret {p : Program} {l : Launch} {e : Env} {s : State} {m : MethodId} {below : List Frame} {meth : Method} {c : Code} {b : Nat} (hx : p.tables.exec = Jvm.exec) (hb : c.code = code) (hr : meth.sig.returnType = ret) (hlocks : meth.locks = false) {pc : Nat} {H : Heap} {ls : Array Slot} (hdg : decode code pc = .ok (.ireturn, 1)) : W p l e room_1 s m #[Value.ref b] below meth c H [] 600000 7302250 (lw_Z below #[Value.ref b] s) (F0 m pc ls [.int 1]) := by
  intro T hT X
  obtain ⟨fs, hret, hrun, hended, hW, hframe⟩ := X.leave (v := some (.int 1)) (hlocks := hlocks) (fun h => by rw [hr] at h; cases h)
  have hmeth' : T.vm.method? m = some meth := X.method'
  refine ⟨T.setFrames fs, ?_, .returned (some (.int 1)), hrun, hended, rfl, ⟨_, rfl⟩, hW, hframe⟩
  jvm_step X.here [X.here.top, hx, hb, hdg, hmeth', hr, ret, narrow_b1]
  (try refine ⟨rfl, ?_⟩); (try refine ⟨rfl, ?_⟩)
  first | (intro acts; rw [hret _ acts rfl rfl rfl]) | rw [hret _ _ rfl rfl rfl]
  exact Steps.refl _
/-- what holds at the law's entry: the machine, the code, the tables' words (any of lw_tbl by 'hts w (by decide +kernel)'), the script of L ints xs at the cell b, what the Statement gives of the start (any of its parts by flat_of_before) -/
def lw_At (p : Program) (s : State) (m : MethodId) (meth : Method) (c : Code) (b L : Nat) (xs : Nat → Int32) : Prop :=
  p.tables.exec = Jvm.exec ∧ c.code = code ∧ meth.sig.returnType = ret ∧ c.maxLocals = 4 ∧ s.vm.findClass R_law = some m.cls ∧ (∀ w ∈ lw_tbl, w.before #[Value.ref b] s = true) ∧ va_X b L xs s s.heap ∧ b < s.heap.size ∧ meth.locks = false ∧ (Jvm.Cond.and given_1 narrow_1).before #[Value.ref b] s = true
def zTm (i : Nat) : Term := .string "ButlerRemembers$House" ([73, 82, 84, 86, 105, 107, 113].getD i 0)
def zFl : List Cond := flatC (Jvm.Cond.and given_1 narrow_1)
theorem zFl_ex : ∀ i, i < 7 → Cond.exactly (zTm i) "java/lang/String" ∈ zFl := by decide +kernel
theorem zFl_co : ∀ i, i < 7 → Cond.eq (.field (zTm i) "java/lang/String" "coder" "B") (.int 0) ∈ zFl := by decide +kernel
theorem zFl_ar : ∀ i, i < 7 → Cond.arrayOf (.field (zTm i) "java/lang/String" "value" "[B") .byte ∈ zFl := by decide +kernel
theorem zFl_le : ∀ i, i < 7 → Cond.eq (.length (.field (zTm i) "java/lang/String" "value" "[B")) (.int (Int32.ofNat (zLen.getD i 0))) ∈ zFl := by decide +kernel
theorem zFl_el : ∀ i, i < 7 → ∀ j, j < zLen.getD i 0 → Cond.eq (.elem (.field (zTm i) "java/lang/String" "value" "[B") (.int (Int32.ofNat j))) (.int ((zByt.getD i []).getD j 0)) ∈ zFl := by decide +kernel
theorem zFl_ne : ∀ i, i < 7 → ∀ j, j < 7 → i ≠ j → Cond.not (Cond.eq (zTm i) (zTm j)) ∈ zFl ∨ Cond.not (Cond.eq (zTm j) (zTm i)) ∈ zFl := by decide +kernel
theorem zFl_no : ∀ q ∈ zNo, Cond.not (.castable q.1 q.2) ∈ zFl := by decide +kernel
theorem zFl_cs : Cond.eq (.static "java/lang/String" "COMPACT_STRINGS" "Z") (.int 1) ∈ zFl := by decide +kernel
theorem zFl_fm : Cond.isRef (.static "jdk/internal/util/Preconditions" "SIOOBE_FORMATTER" "Ljava/util/function/BiFunction;") ∈ zFl := by decide +kernel
theorem zTb_cast : ∀ q ∈ [("ButlerRemembers$Bishop", "ButlerRemembers$Heir"), ("ButlerRemembers$Daughter", "ButlerRemembers$Duchess"), ("ButlerRemembers$Told", "ButlerRemembers$Cousin"), ("ButlerRemembers$Heir", "ButlerRemembers$Master"), ("ButlerRemembers$Duchess", "ButlerRemembers$Master"), ("ButlerRemembers$Cousin", "ButlerRemembers$Master"), ("ButlerRemembers$Bishop", "ButlerRemembers$Master"), ("ButlerRemembers$Daughter", "ButlerRemembers$Master"), ("ButlerRemembers$Told", "ButlerRemembers$Master")], Cond.castable q.1 q.2 ∈ lw_tbl := by decide +kernel
theorem zTb_tx : ∀ i, i < 7 → ∀ q, zTx[i]? = some q → Cond.stringRef q.1 q.2.1 q.2.2 ∈ lw_tbl := by
  intro i hi q hq
  rcases (show i = 0 ∨ i = 1 ∨ i = 2 ∨ i = 3 ∨ i = 4 ∨ i = 5 ∨ i = 6 by omega) with rfl | rfl | rfl | rfl | rfl | rfl | rfl <;> cases hq <;> decide +kernel
theorem zTb_ao : ∀ C ∈ ["ButlerRemembers$House", "ButlerRemembers$Master", "ButlerRemembers$Tape"], Cond.arrayOver (.object C) ∈ lw_tbl := by decide +kernel
theorem zTb_aa : Cond.arrayOver (.array .int) ∈ lw_tbl := by decide +kernel
theorem zTb_ls : Cond.laysStatic "java/lang/String" "COMPACT_STRINGS" "Z" ∈ lw_tbl ∧ Cond.initialized "java/lang/String" ∈ lw_tbl ∧ Cond.laysStatic "jdk/internal/util/Preconditions" "SIOOBE_FORMATTER" "Ljava/util/function/BiFunction;" ∈ lw_tbl ∧ Cond.initialized "jdk/internal/util/Preconditions" ∈ lw_tbl := by decide +kernel
theorem tblG_in : ∀ w ∈ tblG, w ∈ lw_tbl := fun _ h => (List.mem_filter.mp h).1
theorem zIs0 : Cond.instantiable RX0 0 ∈ lw_tbl := List.mem_of_getElem? (i := 215) (by decide +kernel)
theorem zIs1 : Cond.instantiable RX1 0 ∈ lw_tbl := List.mem_of_getElem? (i := 208) (by decide +kernel)
theorem zIs2 : Cond.instantiable RX2 0 ∈ lw_tbl := List.mem_of_getElem? (i := 222) (by decide +kernel)
theorem zIs3 : Cond.instantiable RX3 0 ∈ lw_tbl := List.mem_of_getElem? (i := 201) (by decide +kernel)
theorem zIs4 : Cond.instantiable RX4 0 ∈ lw_tbl := List.mem_of_getElem? (i := 194) (by decide +kernel)
theorem zIs5 : Cond.instantiable RX5 9 ∈ lw_tbl := List.mem_of_getElem? (i := 236) (by decide +kernel)
theorem zIs6 : Cond.instantiable RX6 20 ∈ lw_tbl := List.mem_of_getElem? (i := 100) (by decide +kernel)
theorem zIs7 : Cond.instantiable RX7 0 ∈ lw_tbl := List.mem_of_getElem? (i := 187) (by decide +kernel)
theorem zIs8 : Cond.instantiable RX8 3 ∈ lw_tbl := List.mem_of_getElem? (i := 301) (by decide +kernel)
theorem zIs9 : Cond.instantiable RX9 0 ∈ lw_tbl := List.mem_of_getElem? (i := 229) (by decide +kernel)
theorem zIs10 : Cond.instantiable RX10 4 ∈ lw_tbl := List.mem_of_getElem? (i := 273) (by decide +kernel)
theorem zIs11 : Cond.instantiable RX11 13 ∈ lw_tbl := List.mem_of_getElem? (i := 92) (by decide +kernel)
theorem zIs12 : Cond.instantiable RX12 28 ∈ lw_tbl := List.mem_of_getElem? (i := 1012) (by decide +kernel)
theorem zKall {s : State} {args : Array Value} (hts : ∀ w ∈ lw_tbl, w.before args s = true) : ∃ (dC : Nat → ClassId) (dI : Nat → Nat → Nat), ∀ (k : Nat) (q : vw_C), vwCl[k]? = some q → u_Kn s q.1 q.2.1 q.2.2 (dC k) (dI k) := by
  obtain ⟨c0, i0, h0⟩ := u_known (C := RX0) (T := TX0) (N := 0) (n := 0) hts (fun w h => tblG_in w (inG0 w h)) (hts _ zIs0)
  obtain ⟨c1, i1, h1⟩ := u_known (C := RX1) (T := TX1) (N := 0) (n := 0) hts (fun w h => tblG_in w (inG1 w h)) (hts _ zIs1)
  obtain ⟨c2, i2, h2⟩ := u_known (C := RX2) (T := TX2) (N := 0) (n := 0) hts (fun w h => tblG_in w (inG2 w h)) (hts _ zIs2)
  obtain ⟨c3, i3, h3⟩ := u_known (C := RX3) (T := TX3) (N := 0) (n := 0) hts (fun w h => tblG_in w (inG3 w h)) (hts _ zIs3)
  obtain ⟨c4, i4, h4⟩ := u_known (C := RX4) (T := TX4) (N := 0) (n := 0) hts (fun w h => tblG_in w (inG4 w h)) (hts _ zIs4)
  obtain ⟨c5, i5, h5⟩ := u_known (C := RX5) (T := TX5) (N := 9) (n := 9) hts (fun w h => tblG_in w (inG5 w h)) (hts _ zIs5)
  obtain ⟨c6, i6, h6⟩ := u_known (C := RX6) (T := TX6) (N := 20) (n := 20) hts (fun w h => tblG_in w (inG6 w h)) (hts _ zIs6)
  obtain ⟨c7, i7, h7⟩ := u_known (C := RX7) (T := TX7) (N := 0) (n := 0) hts (fun w h => tblG_in w (inG7 w h)) (hts _ zIs7)
  obtain ⟨c8, i8, h8⟩ := u_known (C := RX8) (T := TX8) (N := 3) (n := 3) hts (fun w h => tblG_in w (inG8 w h)) (hts _ zIs8)
  obtain ⟨c9, i9, h9⟩ := u_known (C := RX9) (T := TX9) (N := 0) (n := 0) hts (fun w h => tblG_in w (inG9 w h)) (hts _ zIs9)
  obtain ⟨c10, i10, h10⟩ := u_known (C := RX10) (T := TX10) (N := 4) (n := 4) hts (fun w h => tblG_in w (inG10 w h)) (hts _ zIs10)
  obtain ⟨c11, i11, h11⟩ := u_known (C := RX11) (T := TX11) (N := 13) (n := 13) hts (fun w h => tblG_in w (inG11 w h)) (hts _ zIs11)
  obtain ⟨c12, i12, h12⟩ := u_known (C := RX12) (T := TX12) (N := 28) (n := 28) hts (fun w h => tblG_in w (inG12 w h)) (hts _ zIs12)
  refine ⟨fun k => match k with | 0 => c0 | 1 => c1 | 2 => c2 | 3 => c3 | 4 => c4 | 5 => c5 | 6 => c6 | 7 => c7 | 8 => c8 | 9 => c9 | 10 => c10 | 11 => c11 | _ => c12, fun k => match k with | 0 => i0 | 1 => i1 | 2 => i2 | 3 => i3 | 4 => i4 | 5 => i5 | 6 => i6 | 7 => i7 | 8 => i8 | 9 => i9 | 10 => i10 | 11 => i11 | _ => i12, ?_⟩
  intro k q hq
  match k, hq with
  | 0, hq => cases hq; exact h0
  | 1, hq => cases hq; exact h1
  | 2, hq => cases hq; exact h2
  | 3, hq => cases hq; exact h3
  | 4, hq => cases hq; exact h4
  | 5, hq => cases hq; exact h5
  | 6, hq => cases hq; exact h6
  | 7, hq => cases hq; exact h7
  | 8, hq => cases hq; exact h8
  | 9, hq => cases hq; exact h9
  | 10, hq => cases hq; exact h10
  | 11, hq => cases hq; exact h11
  | 12, hq => cases hq; exact h12
  | k + 13, hq => simp [vwCl] at hq
theorem zArrP {s : State} {args : Array Value} {ty : FieldType} (h : (Cond.arrayClass ty).before args s = true) : ∃ c, s.vm.findClass ("[" ++ ty.toString) = some c ∧ ArrOfT s c ty := by
  obtain ⟨c, k, comp, h1, h2, h3⟩ := Cond.arrayClass_spec h
  exact ⟨c, h1, fun n z => ⟨(fun k h => by cases h), k, h2, comp, h3⟩⟩
theorem zArrO {s : State} {C : String} (h : va_AO C s) : ∃ c, ArrOfT s c (.object C) ∧ va_RA s c (.object C) := by
  obtain ⟨comp, c, k, h1, h2, h3, h4, h5⟩ := Cond.arrayOver_spec h
  exact ⟨c, fun n z => ⟨(fun k h => by cases h), k, h3, comp, h4⟩, k, comp, h3, h4, h1, h5⟩
theorem zArrA {s : State} (h : zAOA s) : ∃ c, ArrOfT s c (.array .int) ∧ va_RA s c (.array .int) := by
  obtain ⟨comp, c, k, h1, h2, h3, h4, h5⟩ := h.spec
  exact ⟨c, fun n z => ⟨(fun k h => by cases h), k, h3, comp, h4⟩, h5⟩
set_option maxHeartbeats 4000000 in
theorem zStart {s : State} {args : Array Value} (hts : ∀ w ∈ lw_tbl, w.before args s = true) (hgv : (Jvm.Cond.and given_1 narrow_1).before args s = true) : ∃ g : zG, g.2.2.2.2 = s.heap.size ∧ zS g s := by
  have hs : ∀ w ∈ zFl, w.before args s = true := flat_of_before _ hgv
  obtain ⟨dC, dI, hKn⟩ := zKall hts
  have hAO : ∀ C ∈ ["ButlerRemembers$House", "ButlerRemembers$Master", "ButlerRemembers$Tape"], va_AO C s := fun C hC => va_AO.of (hts _ (zTb_ao C hC))
  have hAA : zAOA s := hts _ zTb_aa
  obtain ⟨y0, f0, r0⟩ := zArrP (hts _ (tblG_in _ zArI))
  obtain ⟨y1, f1, r1⟩ := zArrP (hts _ (tblG_in _ zArB))
  obtain ⟨y2, f2, r2⟩ := zArrP (hts _ (tblG_in _ zArC))
  obtain ⟨y3, f3, r3⟩ := zArrP (hts _ (tblG_in _ zArJ))
  obtain ⟨y4, r4, f4⟩ := zArrO (hAO "ButlerRemembers$House" (by decide))
  obtain ⟨y5, r5, f5⟩ := zArrO (hAO "ButlerRemembers$Master" (by decide))
  obtain ⟨y6, r6, f6⟩ := zArrO (hAO "ButlerRemembers$Tape" (by decide))
  obtain ⟨y7, r7, f7⟩ := zArrA hAA
  have hA : ∀ a : Nat, a < s.heap.size → ¬ (fun q : Nat => s.heap.size ≤ q) a := fun a h => Nat.not_le.mpr h
  obtain ⟨adK, adV, hvS, hev⟩ := vk_Sof (args := args) (s := s) (N := 7) (tm := zTm) (len := zLen) (byt := zByt) (A := fun q : Nat => s.heap.size ≤ q) (by decide) (fun i hi => hs _ (zFl_ex i hi)) (fun i hi => hs _ (zFl_co i hi)) (fun i hi => hs _ (zFl_ar i hi)) (fun i hi => hs _ (zFl_le i hi)) (fun i hi j hj => hs _ (zFl_el i hi j hj)) (fun i j hi hj hij => (zFl_ne i hi j hj hij).imp (fun h => hs _ h) (fun h => hs _ h)) hA
  refine ⟨((dC, dI), (fun t => match t with | 0 => y0 | 1 => y1 | 2 => y2 | 3 => y3 | 4 => y4 | 5 => y5 | 6 => y6 | _ => y7), adK, adV, s.heap.size), rfl, ⟨hKn, ?_⟩, hvS, ?_, ?_, ?_, ?_, hAO, hAA, ?_, ?_⟩
  · intro k q hq
    match k, hq with
    | 0, hq => cases hq; exact ⟨r0, f0⟩
    | 1, hq => cases hq; exact ⟨r1, f1⟩
    | 2, hq => cases hq; exact ⟨r2, f2⟩
    | 3, hq => cases hq; exact ⟨r3, f3⟩
    | 4, hq => cases hq; exact ⟨r4, f4⟩
    | 5, hq => cases hq; exact ⟨r5, f5⟩
    | 6, hq => cases hq; exact ⟨r6, f6⟩
    | 7, hq => cases hq; exact ⟨r7, f7⟩
    | k + 8, hq => simp [zTys] at hq
  · intro i q hq
    have hi : i < 7 := (List.getElem?_eq_some_iff.mp hq).1
    have he := hev i hi
    have hw := hts _ (zTb_tx i hi q hq)
    rcases (show i = 0 ∨ i = 1 ∨ i = 2 ∨ i = 3 ∨ i = 4 ∨ i = 5 ∨ i = 6 by omega) with rfl | rfl | rfl | rfl | rfl | rfl | rfl <;> cases hq <;> exact vk_R.of hw he
  · exact va_Zof (hts _ zTb_ls.1) (hts _ zTb_ls.2.1) (va_eqt (hs _ zFl_cs)) hA
  · exact va_Zqof (hts _ zTb_ls.2.2.1) (hts _ zTb_ls.2.2.2) (hs _ zFl_fm) hA
  · intro w hw
    have h1 := List.mem_filter.mp hw
    have h0 := hts w h1.1
    have hn := h1.2
    cases w <;> first | exact va_Nw.of rfl h0 | (simp [zIsNest] at hn; done)
  · exact fun q hq => va_Nc.of (hs _ (zFl_no q hq))
  · exact fun q hq => va_Nw.of rfl (hts _ (zTb_cast q hq))
/-- the claim out of the function: on every script it answers 1 -/
theorem whole_of (N : Nat) (hfun : ∀ (L : Nat) (xs : Nat → Int32) (z : Nat), L ≤ 3072 → ∃ h', fL_law L xs N (z, fun _ => none) = some (1, h')) {p : Program} {e : Env} {s : State} {m : MethodId} {below : List Frame} {meth : Method} {c : Code} (l : Launch) {b L : Nat} {xs : Nat → Int32} (hL : L ≤ 3072) (C0 : lw_At p s m meth c b L xs) : W p l e room_1 s m #[Value.ref b] below meth c s.heap [] 0 0 (lw_Z below #[Value.ref b] s) (entryFrame m ([Value.ref b] : List Value).toArray 4) := by
  obtain ⟨hx, hb, hr, hml, hown, hts, hX, hbl, hlocks, hgv⟩ := C0
  obtain ⟨g, hgz, hgS⟩ := zStart hts hgv
  obtain ⟨h', hf⟩ := hfun L xs s.heap.size hL
  have hbA : ¬ zA g b := by unfold zA; rw [hgz]; exact Nat.not_le.mpr hbl
  have C : zC (p, l, e, room_1, s, m, #[Value.ref b], below, meth, c) g (yLn meth.name) cL_law 4 34 145 3492 (some .boolean) := ⟨⟨hx, hb, hml, hown, fun w hw => hts w (tblG_in w hw)⟩, hr, hlocks, rfl, hgS, Nat.le_of_ble_eq_true rfl, Nat.le_of_ble_eq_true rfl, Nat.le_of_ble_eq_true rfl, Nat.le_of_ble_eq_true rfl, Nat.le_of_eq hgz⟩
  have hZ := tL_law (X := (p, l, e, room_1, s, m, #[Value.ref b], below, meth, c)) (b := b) (L := L) (xs := xs) ⟨hX, hbl, hbA⟩ C N (s.heap.size, fun _ => none)
  have hl := lv_entry ([.ref b] : List Value) (n := 4) (Nat.le_of_ble_eq_true rfl)
  have hR : zR g (s.heap.size, fun _ => none) s.heap := ⟨rfl, Nat.le_of_eq hgz, fun a e he => by cases he⟩
  have hW := hZ 1 h' hf s.heap [] _ hR va_S.rf hl
  rw [lg_entry_eq]
  intro T hT Xs
  obtain ⟨t, a1, o, b1, b2, ⟨rfl, -, -⟩, Lc, hF, hfree⟩ := hW T hT Xs
  refine ⟨t, a1, _, b1, b2, rfl, hF.1, hF.2.1, ?_⟩
  exact hF.2.2.weaken (fun y hy hlt => absurd (hfree y hy) (by unfold zA; rw [hgz]; exact Nat.not_le.mpr hlt)) (Nat.le_of_ble_eq_true rfl) (Nat.le_of_ble_eq_true rfl)
