theorem zAcN : Cond.native arraycopyName ∈ tblG := tblG_at 711 (by decide +kernel) (by decide +kernel)
theorem zAcS : Cond.static arraycopyName ∈ tblG := tblG_at 710 (by decide +kernel) (by decide +kernel)
theorem zAcI : Cond.initialized "java/lang/System" ∈ tblG := tblG_at 89 (by decide +kernel) (by decide +kernel)
theorem w709 : Cond.methodLink "ButlerRemembers" 336 arraycopyName ∈ tblG := tblG_at 709 (by decide +kernel) (by decide +kernel)
theorem w865 : Cond.methodLink "ButlerRemembers$Household" 111 arraycopyName ∈ tblG := tblG_at 865 (by decide +kernel) (by decide +kernel)
theorem w91 : Cond.classLink "ButlerRemembersLaw" 7 "ButlerRemembers" ∈ tblG := tblG_at 91 (by decide +kernel) (by decide +kernel)
theorem w99 : Cond.classLink "ButlerRemembers" 9 "ButlerRemembers$Household" ∈ tblG := tblG_at 99 (by decide +kernel) (by decide +kernel)
theorem w105 : Cond.classLink "ButlerRemembers$Household" 58 "[[I" ∈ tblG := tblG_at 105 (by decide +kernel) (by decide +kernel)
theorem w185 : Cond.classLink "ButlerRemembers" 25 "ButlerRemembers$Master" ∈ tblG := tblG_at 185 (by decide +kernel) (by decide +kernel)
theorem w193 : Cond.classLink "ButlerRemembers" 28 "ButlerRemembers$Heir" ∈ tblG := tblG_at 193 (by decide +kernel) (by decide +kernel)
theorem w200 : Cond.classLink "ButlerRemembers" 31 "ButlerRemembers$Duchess" ∈ tblG := tblG_at 200 (by decide +kernel) (by decide +kernel)
theorem w207 : Cond.classLink "ButlerRemembers" 34 "ButlerRemembers$Cousin" ∈ tblG := tblG_at 207 (by decide +kernel) (by decide +kernel)
theorem w214 : Cond.classLink "ButlerRemembers" 37 "ButlerRemembers$Bishop" ∈ tblG := tblG_at 214 (by decide +kernel) (by decide +kernel)
theorem w221 : Cond.classLink "ButlerRemembers" 40 "ButlerRemembers$Daughter" ∈ tblG := tblG_at 221 (by decide +kernel) (by decide +kernel)
theorem w228 : Cond.classLink "ButlerRemembers" 43 "ButlerRemembers$Told" ∈ tblG := tblG_at 228 (by decide +kernel) (by decide +kernel)
theorem w235 : Cond.classLink "ButlerRemembers" 50 "ButlerRemembers$House" ∈ tblG := tblG_at 235 (by decide +kernel) (by decide +kernel)
theorem w272 : Cond.classLink "ButlerRemembers" 72 "ButlerRemembers$Turn" ∈ tblG := tblG_at 272 (by decide +kernel) (by decide +kernel)
theorem w299 : Cond.classLink "ButlerRemembers" 79 "ButlerRemembers$Tape" ∈ tblG := tblG_at 299 (by decide +kernel) (by decide +kernel)
theorem w1011 : Cond.classLink "ButlerRemembersLaw" 10 "ButlerRemembersModel" ∈ tblG := tblG_at 1011 (by decide +kernel) (by decide +kernel)
def zcopyI (h : AH) (a : Nat) (sp : Int32) (b : Nat) (dp n : Int32) : Option AH := match h.2 a, h.2 b with
  | some (.inl (c0, n0, .inl f)), some (.inl (c1, n1, .inl g)) => if (c0 = 0 ∧ c1 = 0) ∧ ¬ sp < 0 ∧ ¬ dp < 0 ∧ ¬ n < 0 ∧ sp.toNatClampNeg + n.toNatClampNeg ≤ n0 ∧ dp.toNatClampNeg + n.toNatClampNeg ≤ n1 then some (h.1, va_up h.2 b (some (.inl (0, n1, .inl (va_cpy f g sp.toNatClampNeg dp.toNatClampNeg n.toNatClampNeg))))) else none
  | _, _ => none
theorem zcopyI_spec {h h1 : AH} {a b : Nat} {sp dp n : Int32} (E : zcopyI h a sp b dp n = some h1) : ∃ n0 n1 f g, h.2 a = some (.inl (0, n0, .inl f)) ∧ h.2 b = some (.inl (0, n1, .inl g)) ∧ (¬ sp < 0 ∧ ¬ dp < 0 ∧ ¬ n < 0 ∧ sp.toNatClampNeg + n.toNatClampNeg ≤ n0 ∧ dp.toNatClampNeg + n.toNatClampNeg ≤ n1) ∧ h1 = (h.1, va_up h.2 b (some (.inl (0, n1, .inl (va_cpy f g sp.toNatClampNeg dp.toNatClampNeg n.toNatClampNeg))))) := by
  unfold zcopyI at E
  split at E
  · rename_i c0 n0 f c1 n1 g he1 he2
    split at E
    · rename_i hc
      obtain ⟨⟨rfl, rfl⟩, hk⟩ := hc
      cases E
      exact ⟨n0, n1, f, g, he1, he2, hk, rfl⟩
    · cases E
  · cases E
theorem z_copyI {X : zX} {g : zG} {y : MethodName} {cc : ByteArray} {nL lev mc ms : Nat} {rt : Option FieldType} {u : Nat × Nat × Nat × Nat} {T : Type} {rv : T → Option Value} {h : AH} {pc pc' : Nat} {lv : List (Nat × Value)} {st : List Value} (C : zC X g y cc nL lev mc ms rt) {i a b : Nat} {sp dp n : Int32} {G : AH → Option (T × AH)} (w : Cond.methodLink y.cls i arraycopyName ∈ tblG) (d : zD cc pc (.invokestatic i) 3 pc') (hW : (st.map fun v => v.category).sum ≤ 8) (hlev : 1 ≤ lev) (kk : ∀ h1, ZZ X g nL u rv (G h1) h1 pc' lv st) : ZZ X g nL u rv ((zcopyI h a sp b dp n).bind G) h pc lv (.int n :: .int dp :: .ref b :: .int sp :: .ref a :: st) := by
  obtain ⟨p, l, e, R, s, m, args, below, meth, c⟩ := X
  obtain ⟨⟨hx, hb, hml, hown, hts⟩, hr, hlk, hnm, hS0, hRf, hRl, hRc, hRs, hzs⟩ := C
  obtain ⟨hd, rfl⟩ := d
  intro r h' E H locs ls hR hS hl
  obtain ⟨h1, hv, E⟩ := Option.bind_eq_some_iff.mp E
  obtain ⟨n0, n1, f, f1, he0, he1, ⟨k1, k2, k3, k4, k5⟩, rfl⟩ := zcopyI_spec hv
  have nn : ∀ z : Int32, ¬ z < 0 → z.toInt = (z.toNatClampNeg : Int) := by
    intro z hz
    have hz0 : (0 : Int) ≤ z.toInt := by
      have := Int32.not_lt.mp hz
      simpa using Int32.le_iff_toInt_le.mp this
    show z.toInt = ((z.toInt.toNat : Nat) : Int)
    omega
  have hc0 : H[a]? = some (vp_cell (g.2.1 0) (n0, .inl f)) := (hR.2.2 a _ he0).1
  have hc1 : H[b]? = some (vp_cell (g.2.1 0) (n1, .inl f1)) := (hR.2.2 b _ he1).1
  obtain ⟨-, q0, hk0, cm0, hkk0⟩ := (hS0.1.2 0 _ rfl).1 n0 (fun j => .int (f j))
  obtain ⟨-, q1, hk1, cm1, hkk1⟩ := (hS0.1.2 0 _ rfl).1 n1 (fun j => .int (f1 j))
  have hfr : 1 ≤ R.frames := Nat.le_trans hlev hRf
  have hlo : (st.map fun v => v.category).sum + (nativeFrameWords "java/lang/System" "arraycopy" 5 + 11) ≤ R.locals := by
    have e1 : nativeFrameWords "java/lang/System" "arraycopy" 5 ≤ 80 := by decide
    omega
  intro T hT X
  obtain ⟨vm', X', step⟩ := X.arraycopy hx hown (hts _ w) (hts _ zAcN) (hts _ zAcS) (hts _ zAcI) (src := a) (dst := b) (cs := vp_cell (g.2.1 0) (n0, .inl f)) (cd := vp_cell (g.2.1 0) (n1, .inl f1)) (srcPos := sp) (destPos := dp) (n := n) (by rw [hT]; exact hc0) (by rw [hT]; exact hc1)
    (fun _ h => by cases h) (fun _ h => by cases h) (fun h => by cases h) (fun h => by cases h) hk0 hk1 hkk0 hkk1 (by simp [refKind]) k1 k2 k3
    (by rw [nn sp k1, nn n k3]; show ¬ _ > ((arrV (g.2.1 0) n0 (fun j => .int (f j))).slots.size : Int); rw [arrV_size]; omega)
    (by rw [nn dp k2, nn n k3]; show ¬ _ > ((arrV (g.2.1 0) n1 (fun j => .int (f1 j))).slots.size : Int); rw [arrV_size]; omega)
    (fun vm₁ _ i hi => by
      have e : (vp_cell (g.2.1 0) (n0, .inl f)).slots.getD (sp.toNatClampNeg + i) .null = .int (f (sp.toNatClampNeg + i)) := by
        show (arrV (g.2.1 0) n0 (fun j => .int (f j))).slots.getD _ _ = _
        rw [Array.getD_eq_getD_getElem?, arrV_read _ _ (by omega)]
        rfl
      refine ⟨?_, ?_⟩
      · rw [e]; rfl
      · rw [e]; exact trivial)
    (g := F0 m pc ls (.int n :: .int dp :: .ref b :: .int sp :: .ref a :: st)) rfl (by rw [hml]; exact hl.1) (rest := st) rfl (by rw [hb]; exact hd) hfr (by show 2 * 0 + _ + _ ≤ _; omega)
  have e1 : copied (vp_cell (g.2.1 0) (n0, .inl f)) (vp_cell (g.2.1 0) (n1, .inl f1)) sp dp n = vp_cell (g.2.1 0) (n1, .inl (va_cpy f f1 sp.toNatClampNeg dp.toNatClampNeg n.toNatClampNeg)) := va_copied (fun z => .int z) (g.2.1 0) (g.2.1 0) f f1 k4
  rw [e1] at X' step
  have hlb : b < H.size := (Array.getElem?_eq_some_iff.mp hc1).1
  have hheap : ((T.setVm vm').setCell b (vp_cell (g.2.1 0) (n1, .inl (va_cpy f f1 sp.toNatClampNeg dp.toNatClampNeg n.toNatClampNeg)))).heap = H.setIfInBounds b (vp_cell (g.2.1 0) (n1, .inl (va_cpy f f1 sp.toNatClampNeg dp.toNatClampNeg n.toNatClampNeg))) := by rw [← hT]; rfl
  have oq : ∀ q : Nat, q ≠ b → (H.setIfInBounds b (vp_cell (g.2.1 0) (n1, .inl (va_cpy f f1 sp.toNatClampNeg dp.toNatClampNeg n.toNatClampNeg))))[q]? = H[q]? := fun q hq => by simp [Array.getElem?_setIfInBounds, Ne.symm hq]
  have hz := (hR.2.2 b _ he1).2
  obtain ⟨t, a1, b1⟩ := kk _ r h' E _ _ ls (hR.set (e := .inl (0, n1, .inl (va_cpy f f1 sp.toNatClampNeg dp.toNatClampNeg n.toNatClampNeg))) he1 (show (H.setIfInBounds b _)[b]? = some _ by simp [Array.getElem?_setIfInBounds, hlb]) (by simp) oq)
    ⟨by simp; exact hS.1, fun q g1 g2 => by rw [oq q (fun e => g2 (by rw [e]; exact hz))]; exact hS.2.1 q g1 g2, fun q hq => by
      rcases List.mem_append.mp hq with h | h
      · exact hS.2.2 q h
      · obtain ⟨z, -, hz'⟩ := List.mem_map.mp h
        rw [← hz']
        exact hz⟩ hl _ hheap X'
  exact ⟨t, step t a1, b1⟩
def zcopyL (h : AH) (a : Nat) (sp : Int32) (b : Nat) (dp n : Int32) : Option AH := match h.2 a, h.2 b with
  | some (.inl (c0, n0, .inr (.inl f))), some (.inl (c1, n1, .inr (.inl g))) => if (c0 = 3 ∧ c1 = 3) ∧ ¬ sp < 0 ∧ ¬ dp < 0 ∧ ¬ n < 0 ∧ sp.toNatClampNeg + n.toNatClampNeg ≤ n0 ∧ dp.toNatClampNeg + n.toNatClampNeg ≤ n1 then some (h.1, va_up h.2 b (some (.inl (3, n1, .inr (.inl (va_cpy f g sp.toNatClampNeg dp.toNatClampNeg n.toNatClampNeg)))))) else none
  | _, _ => none
theorem zcopyL_spec {h h1 : AH} {a b : Nat} {sp dp n : Int32} (E : zcopyL h a sp b dp n = some h1) : ∃ n0 n1 f g, h.2 a = some (.inl (3, n0, .inr (.inl f))) ∧ h.2 b = some (.inl (3, n1, .inr (.inl g))) ∧ (¬ sp < 0 ∧ ¬ dp < 0 ∧ ¬ n < 0 ∧ sp.toNatClampNeg + n.toNatClampNeg ≤ n0 ∧ dp.toNatClampNeg + n.toNatClampNeg ≤ n1) ∧ h1 = (h.1, va_up h.2 b (some (.inl (3, n1, .inr (.inl (va_cpy f g sp.toNatClampNeg dp.toNatClampNeg n.toNatClampNeg)))))) := by
  unfold zcopyL at E
  split at E
  · rename_i c0 n0 f c1 n1 g he1 he2
    split at E
    · rename_i hc
      obtain ⟨⟨rfl, rfl⟩, hk⟩ := hc
      cases E
      exact ⟨n0, n1, f, g, he1, he2, hk, rfl⟩
    · cases E
  · cases E
theorem z_copyL {X : zX} {g : zG} {y : MethodName} {cc : ByteArray} {nL lev mc ms : Nat} {rt : Option FieldType} {u : Nat × Nat × Nat × Nat} {T : Type} {rv : T → Option Value} {h : AH} {pc pc' : Nat} {lv : List (Nat × Value)} {st : List Value} (C : zC X g y cc nL lev mc ms rt) {i a b : Nat} {sp dp n : Int32} {G : AH → Option (T × AH)} (w : Cond.methodLink y.cls i arraycopyName ∈ tblG) (d : zD cc pc (.invokestatic i) 3 pc') (hW : (st.map fun v => v.category).sum ≤ 8) (hlev : 1 ≤ lev) (kk : ∀ h1, ZZ X g nL u rv (G h1) h1 pc' lv st) : ZZ X g nL u rv ((zcopyL h a sp b dp n).bind G) h pc lv (.int n :: .int dp :: .ref b :: .int sp :: .ref a :: st) := by
  obtain ⟨p, l, e, R, s, m, args, below, meth, c⟩ := X
  obtain ⟨⟨hx, hb, hml, hown, hts⟩, hr, hlk, hnm, hS0, hRf, hRl, hRc, hRs, hzs⟩ := C
  obtain ⟨hd, rfl⟩ := d
  intro r h' E H locs ls hR hS hl
  obtain ⟨h1, hv, E⟩ := Option.bind_eq_some_iff.mp E
  obtain ⟨n0, n1, f, f1, he0, he1, ⟨k1, k2, k3, k4, k5⟩, rfl⟩ := zcopyL_spec hv
  have nn : ∀ z : Int32, ¬ z < 0 → z.toInt = (z.toNatClampNeg : Int) := by
    intro z hz
    have hz0 : (0 : Int) ≤ z.toInt := by
      have := Int32.not_lt.mp hz
      simpa using Int32.le_iff_toInt_le.mp this
    show z.toInt = ((z.toInt.toNat : Nat) : Int)
    omega
  have hc0 : H[a]? = some (vp_cell (g.2.1 3) (n0, .inr (.inl f))) := (hR.2.2 a _ he0).1
  have hc1 : H[b]? = some (vp_cell (g.2.1 3) (n1, .inr (.inl f1))) := (hR.2.2 b _ he1).1
  obtain ⟨-, q0, hk0, cm0, hkk0⟩ := (hS0.1.2 3 _ rfl).1 n0 (fun j => .long (f j))
  obtain ⟨-, q1, hk1, cm1, hkk1⟩ := (hS0.1.2 3 _ rfl).1 n1 (fun j => .long (f1 j))
  have hfr : 1 ≤ R.frames := Nat.le_trans hlev hRf
  have hlo : (st.map fun v => v.category).sum + (nativeFrameWords "java/lang/System" "arraycopy" 5 + 11) ≤ R.locals := by
    have e1 : nativeFrameWords "java/lang/System" "arraycopy" 5 ≤ 80 := by decide
    omega
  intro T hT X
  obtain ⟨vm', X', step⟩ := X.arraycopy hx hown (hts _ w) (hts _ zAcN) (hts _ zAcS) (hts _ zAcI) (src := a) (dst := b) (cs := vp_cell (g.2.1 3) (n0, .inr (.inl f))) (cd := vp_cell (g.2.1 3) (n1, .inr (.inl f1))) (srcPos := sp) (destPos := dp) (n := n) (by rw [hT]; exact hc0) (by rw [hT]; exact hc1)
    (fun _ h => by cases h) (fun _ h => by cases h) (fun h => by cases h) (fun h => by cases h) hk0 hk1 hkk0 hkk1 (by simp [refKind]) k1 k2 k3
    (by rw [nn sp k1, nn n k3]; show ¬ _ > ((arrV (g.2.1 3) n0 (fun j => .long (f j))).slots.size : Int); rw [arrV_size]; omega)
    (by rw [nn dp k2, nn n k3]; show ¬ _ > ((arrV (g.2.1 3) n1 (fun j => .long (f1 j))).slots.size : Int); rw [arrV_size]; omega)
    (fun vm₁ _ i hi => by
      have e : (vp_cell (g.2.1 3) (n0, .inr (.inl f))).slots.getD (sp.toNatClampNeg + i) .null = .long (f (sp.toNatClampNeg + i)) := by
        show (arrV (g.2.1 3) n0 (fun j => .long (f j))).slots.getD _ _ = _
        rw [Array.getD_eq_getD_getElem?, arrV_read _ _ (by omega)]
        rfl
      refine ⟨?_, ?_⟩
      · rw [e]; rfl
      · rw [e]; exact trivial)
    (g := F0 m pc ls (.int n :: .int dp :: .ref b :: .int sp :: .ref a :: st)) rfl (by rw [hml]; exact hl.1) (rest := st) rfl (by rw [hb]; exact hd) hfr (by show 2 * 0 + _ + _ ≤ _; omega)
  have e1 : copied (vp_cell (g.2.1 3) (n0, .inr (.inl f))) (vp_cell (g.2.1 3) (n1, .inr (.inl f1))) sp dp n = vp_cell (g.2.1 3) (n1, .inr (.inl (va_cpy f f1 sp.toNatClampNeg dp.toNatClampNeg n.toNatClampNeg))) := va_copied (fun z => .long z) (g.2.1 3) (g.2.1 3) f f1 k4
  rw [e1] at X' step
  have hlb : b < H.size := (Array.getElem?_eq_some_iff.mp hc1).1
  have hheap : ((T.setVm vm').setCell b (vp_cell (g.2.1 3) (n1, .inr (.inl (va_cpy f f1 sp.toNatClampNeg dp.toNatClampNeg n.toNatClampNeg))))).heap = H.setIfInBounds b (vp_cell (g.2.1 3) (n1, .inr (.inl (va_cpy f f1 sp.toNatClampNeg dp.toNatClampNeg n.toNatClampNeg)))) := by rw [← hT]; rfl
  have oq : ∀ q : Nat, q ≠ b → (H.setIfInBounds b (vp_cell (g.2.1 3) (n1, .inr (.inl (va_cpy f f1 sp.toNatClampNeg dp.toNatClampNeg n.toNatClampNeg)))))[q]? = H[q]? := fun q hq => by simp [Array.getElem?_setIfInBounds, Ne.symm hq]
  have hz := (hR.2.2 b _ he1).2
  obtain ⟨t, a1, b1⟩ := kk _ r h' E _ _ ls (hR.set (e := .inl (3, n1, .inr (.inl (va_cpy f f1 sp.toNatClampNeg dp.toNatClampNeg n.toNatClampNeg)))) he1 (show (H.setIfInBounds b _)[b]? = some _ by simp [Array.getElem?_setIfInBounds, hlb]) (by simp) oq)
    ⟨by simp; exact hS.1, fun q g1 g2 => by rw [oq q (fun e => g2 (by rw [e]; exact hz))]; exact hS.2.1 q g1 g2, fun q hq => by
      rcases List.mem_append.mp hq with h | h
      · exact hS.2.2 q h
      · obtain ⟨z, -, hz'⟩ := List.mem_map.mp h
        rw [← hz']
        exact hz⟩ hl _ hheap X'
  exact ⟨t, step t a1, b1⟩
/-- whether an object of one kind is one of another -/
def zsub (c k : Nat) : Bool := c == k || (c == 0 && k == 4) || (c == 2 && k == 3) || (c == 9 && k == 1)
def zinst (h : AH) (a k : Nat) : Option Int32 := match h.2 a with
  | some (.inr (c, _)) => if c = 0 ∨ c = 1 ∨ c = 2 ∨ c = 3 ∨ c = 4 ∨ c = 7 ∨ c = 9 then some (if zsub c k then 1 else 0) else none
  | _ => none
theorem zinst_spec {h : AH} {a k : Nat} {v : Int32} (E : zinst h a k = some v) : ∃ (c : Nat) (fs : List Value), h.2 a = some (.inr (c, fs)) ∧ (c = 0 ∨ c = 1 ∨ c = 2 ∨ c = 3 ∨ c = 4 ∨ c = 7 ∨ c = 9) ∧ v = if zsub c k then 1 else 0 := by
  unfold zinst at E
  split at E
  · rename_i c fs he
    split at E
    · rename_i hc
      cases E
      exact ⟨c, fs, he, hc, rfl⟩
    · cases E
  · cases E
theorem z_inst {X : zX} {g : zG} {y : MethodName} {cc : ByteArray} {nL lev mc ms : Nat} {rt : Option FieldType} {u : Nat × Nat × Nat × Nat} {T : Type} {rv : T → Option Value} {h : AH} {pc pc' : Nat} {lv : List (Nat × Value)} {st : List Value} (C : zC X g y cc nL lev mc ms rt) {i a k : Nat} {nm : String} {G : Int32 → Option (T × AH)} (w : Cond.classLink y.cls i nm ∈ tblG) (hk : (k, nm) ∈ [(0, "ButlerRemembers$Bishop"), (1, "ButlerRemembers$Cousin"), (2, "ButlerRemembers$Daughter"), (3, "ButlerRemembers$Duchess"), (4, "ButlerRemembers$Heir"), (9, "ButlerRemembers$Told")]) (d : zD cc pc (.instanceof i) 3 pc') (kk : ∀ v, ZZ X g nL u rv (G v) h pc' lv (.int v :: st)) : ZZ X g nL u rv ((zinst h a k).bind G) h pc lv (.ref a :: st) := by
  obtain ⟨p, l, e, R, s, m, args, below, meth, c⟩ := X
  obtain ⟨⟨hx, hb, hml, hown, hts⟩, hr, hlk, hnm, hS0, hRf, hRl, hRc, hRs, hzs⟩ := C
  obtain ⟨hd, rfl⟩ := d
  intro r h' E H locs ls hR hS hl
  obtain ⟨v, hv, E⟩ := Option.bind_eq_some_iff.mp E
  obtain ⟨c0, fs, he, hc0, rfl⟩ := zinst_spec hv
  obtain ⟨hK, hs1, hs2, hs3, hs4, hs5, hs6, hs7, hs8, hs9⟩ := hS0
  have kv := kk _ r h' E H locs ls hR hS hl
  have ks : ∀ {C0 : String} {T0 : u_T} {N0 : Nat}, vwCl[c0]? = some (C0, T0, N0) → ∃ cell : Cell, H[a]? = some cell ∧ cell.vm.isStatics = false ∧ s.vm.findClass C0 = some cell.cls := fun hq => hR.recv hK hq he
  simp only [List.mem_cons, Prod.mk.injEq, List.not_mem_nil, or_false] at hk
  rcases hc0 with rfl | rfl | rfl | rfl | rfl | rfl | rfl <;> rcases hk with ⟨rfl, rfl⟩ | ⟨rfl, rfl⟩ | ⟨rfl, rfl⟩ | ⟨rfl, rfl⟩ | ⟨rfl, rfl⟩ | ⟨rfl, rfl⟩ <;> first
    | exact va_instS (cC := g.1.1 0) hx hb hown (hts _ w) (hK.1 0 (RX0, TX0, 0) rfl).2 (ks (C0 := RX0) rfl) hd kv
    | exact va_instS (cC := g.1.1 1) hx hb hown (hts _ w) (hK.1 1 (RX1, TX1, 0) rfl).2 (ks (C0 := RX1) rfl) hd kv
    | exact va_instS (cC := g.1.1 2) hx hb hown (hts _ w) (hK.1 2 (RX2, TX2, 0) rfl).2 (ks (C0 := RX2) rfl) hd kv
    | exact va_instS (cC := g.1.1 3) hx hb hown (hts _ w) (hK.1 3 (RX3, TX3, 0) rfl).2 (ks (C0 := RX3) rfl) hd kv
    | exact va_instS (cC := g.1.1 4) hx hb hown (hts _ w) (hK.1 4 (RX4, TX4, 0) rfl).2 (ks (C0 := RX4) rfl) hd kv
    | exact va_instS (cC := g.1.1 9) hx hb hown (hts _ w) (hK.1 9 (RX9, TX9, 0) rfl).2 (ks (C0 := RX9) rfl) hd kv
    | exact va_instY hx hb hown (hts _ w) (hs9 (RX0, RX4) (by decide)) (ks rfl) hd kv
    | exact va_instY hx hb hown (hts _ w) (hs9 (RX2, RX3) (by decide)) (ks rfl) hd kv
    | exact va_instY hx hb hown (hts _ w) (hs9 (RX9, RX1) (by decide)) (ks rfl) hd kv
    | exact va_instNo hx hb hown (hts _ w) (hs8 (_, _) (by decide)) (ks rfl) hd kv
theorem z_mmax {X : zX} {g : zG} {y : MethodName} {cc : ByteArray} {nL lev mc ms : Nat} {rt : Option FieldType} {u : Nat × Nat × Nat × Nat} {T : Type} {rv : T → Option Value} {F : Option (T × AH)} {h : AH} {pc pc' : Nat} {lv : List (Nat × Value)} {st : List Value} (C : zC X g y cc nL lev mc ms rt) {i : Nat} {x z : Int32} (kw : zKS y.cls i Lib.Math.max.name Lib.Math.max.code 2 (some .int) 2) (d : zD cc pc (.invokestatic i) 3 pc') (hW : (st.map fun v => v.category).sum ≤ 8) (hlev : 1 ≤ lev) (hu : u.1 ≤ mc ∧ u.2.1 ≤ ms) (k : ZZ X g nL u rv F h pc' lv (.int (if x < z then z else x) :: st)) : ZZ X g nL u rv F h pc lv (.int z :: .int x :: st) := by
  obtain ⟨p, l, e, R, s, m, args, below, meth, c⟩ := X
  obtain ⟨⟨hx, hb, hml, hown, hts⟩, hr, hlk, hnm, hS0, hRf, hRl, hRc, hRs, hzs⟩ := C
  obtain ⟨hd, rfl⟩ := d
  obtain ⟨k1, k2, k3, k4, k5, k6⟩ := kw
  intro r h' E H locs ls hR hS hl
  exact va_mmax hx hb (hml.trans hl.1.symm) hown (hts _ k1) (hts _ k2) (hts _ k3) (hts _ k4) (Nat.le_trans hlev hRf) (by omega) (Nat.le_trans hu.1 hRc) (Nat.le_trans hu.2 hRs) hd (k r h' E H locs ls hR hS hl)
theorem z_mmin {X : zX} {g : zG} {y : MethodName} {cc : ByteArray} {nL lev mc ms : Nat} {rt : Option FieldType} {u : Nat × Nat × Nat × Nat} {T : Type} {rv : T → Option Value} {F : Option (T × AH)} {h : AH} {pc pc' : Nat} {lv : List (Nat × Value)} {st : List Value} (C : zC X g y cc nL lev mc ms rt) {i : Nat} {x z : Int32} (kw : zKS y.cls i Lib.Math.min.name Lib.Math.min.code 2 (some .int) 2) (d : zD cc pc (.invokestatic i) 3 pc') (hW : (st.map fun v => v.category).sum ≤ 8) (hlev : 1 ≤ lev) (hu : u.1 ≤ mc ∧ u.2.1 ≤ ms) (k : ZZ X g nL u rv F h pc' lv (.int (if z < x then z else x) :: st)) : ZZ X g nL u rv F h pc lv (.int z :: .int x :: st) := by
  obtain ⟨p, l, e, R, s, m, args, below, meth, c⟩ := X
  obtain ⟨⟨hx, hb, hml, hown, hts⟩, hr, hlk, hnm, hS0, hRf, hRl, hRc, hRs, hzs⟩ := C
  obtain ⟨hd, rfl⟩ := d
  obtain ⟨k1, k2, k3, k4, k5, k6⟩ := kw
  intro r h' E H locs ls hR hS hl
  exact va_mmin hx hb (hml.trans hl.1.symm) hown (hts _ k1) (hts _ k2) (hts _ k3) (hts _ k4) (Nat.le_trans hlev hRf) (by omega) (Nat.le_trans hu.1 hRc) (Nat.le_trans hu.2 hRs) hd (k r h' E H locs ls hR hS hl)
