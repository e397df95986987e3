def zgI (h : AH) (a ci k : Nat) : Option Int32 := match h.2 a with
  | some (.inr (c, fs)) => if c = ci then (match fs[k]? with | some (.int v) => some v | _ => none) else none
  | _ => none
def zgR (h : AH) (a ci k : Nat) : Option Nat := match h.2 a with
  | some (.inr (c, fs)) => if c = ci then (match fs[k]? with | some (.ref v) => some v | _ => none) else none
  | _ => none
def zput (h : AH) (a ci k : Nat) (v : Value) : Option AH := match h.2 a with
  | some (.inr (c, fs)) => if c = ci ∧ k < fs.length then some (h.1, va_up h.2 a (some (.inr (ci, fs.set k v)))) else none
  | _ => none
def zputZ (h : AH) (a ci k : Nat) (v : Int32) : Option AH := if v = 0 ∨ v = 1 then zput h a ci k (.int v) else none
def zin (i : Int32) (n : Nat) : Prop := ¬ (i < 0 ∨ n ≤ i.toNatClampNeg)
def zald (t : Nat) (h : AH) (a : Nat) (i : Int32) : Option Int32 := match h.2 a with
  | some (.inl (c, n, .inl f)) => if c = t ∧ ¬ (i < 0 ∨ n ≤ i.toNatClampNeg) then some (f i.toNatClampNeg) else none
  | _ => none
def zast (t : Nat) (h : AH) (a : Nat) (i : Int32) (v : Int32) : Option AH := match h.2 a with
  | some (.inl (c, n, .inl f)) => if c = t ∧ ¬ (i < 0 ∨ n ≤ i.toNatClampNeg) then some (h.1, va_up h.2 a (some (.inl (t, n, .inl (upd f i.toNatClampNeg v))))) else none
  | _ => none
def zlald (h : AH) (a : Nat) (i : Int32) : Option Int64 := match h.2 a with
  | some (.inl (c, n, .inr (.inl f))) => if c = 3 ∧ ¬ (i < 0 ∨ n ≤ i.toNatClampNeg) then some (f i.toNatClampNeg) else none
  | _ => none
def zlast (h : AH) (a : Nat) (i : Int32) (v : Int64) : Option AH := match h.2 a with
  | some (.inl (c, n, .inr (.inl f))) => if c = 3 ∧ ¬ (i < 0 ∨ n ≤ i.toNatClampNeg) then some (h.1, va_up h.2 a (some (.inl (3, n, .inr (.inl (vp_updL f i.toNatClampNeg v)))))) else none
  | _ => none
def zaald (t : Nat) (h : AH) (a : Nat) (i : Int32) : Option Nat := match h.2 a with
  | some (.inl (c, n, .inr (.inr (.inr (.inr f))))) => if c = t ∧ ¬ (i < 0 ∨ n ≤ i.toNatClampNeg) then f i.toNatClampNeg else none
  | _ => none
def zlen (h : AH) (a : Nat) : Option Int32 := match h.2 a with
  | some (.inl (c, x)) => if c < 8 then some (Int32.ofNat x.1) else none
  | _ => none
/-- a cell is an object of that kind -/
def zis (h : AH) (a ci : Nat) : Option Unit := match h.2 a with
  | some (.inr (c, _)) => if c = ci then some () else none
  | _ => none
def zkind (h : AH) (a : Nat) : Option Nat := match h.2 a with
  | some (.inr (c, _)) => some c
  | _ => none
theorem zgI_spec {h : AH} {a ci k : Nat} {v : Int32} (E : zgI h a ci k = some v) : ∃ fs, h.2 a = some (.inr (ci, fs)) ∧ fs[k]? = some (.int v) := by
  unfold zgI at E
  split at E
  · rename_i c fs he
    split at E
    · rename_i hc
      subst hc
      split at E
      · rename_i w hw
        cases E
        exact ⟨fs, he, hw⟩
      · cases E
    · cases E
  · cases E
theorem zgR_spec {h : AH} {a ci k : Nat} {v : Nat} (E : zgR h a ci k = some v) : ∃ fs, h.2 a = some (.inr (ci, fs)) ∧ fs[k]? = some (.ref v) := by
  unfold zgR at E
  split at E
  · rename_i c fs he
    split at E
    · rename_i hc
      subst hc
      split at E
      · rename_i w hw
        cases E
        exact ⟨fs, he, hw⟩
      · cases E
    · cases E
  · cases E
theorem zput_spec {h h1 : AH} {a ci k : Nat} {v : Value} (E : zput h a ci k v = some h1) : ∃ fs, h.2 a = some (.inr (ci, fs)) ∧ k < fs.length ∧ h1 = (h.1, va_up h.2 a (some (.inr (ci, fs.set k v)))) := by
  unfold zput at E
  split at E
  · rename_i c fs he
    split at E
    · rename_i hc
      obtain ⟨rfl, hk⟩ := hc
      cases E
      exact ⟨fs, he, hk, rfl⟩
    · cases E
  · cases E
theorem zald_spec {t : Nat} {h : AH} {a : Nat} {i v : Int32} (E : zald t h a i = some v) : ∃ n f, h.2 a = some (.inl (t, n, .inl f)) ∧ vp_in i n ∧ v = f i.toNatClampNeg := by
  unfold zald at E
  split at E
  · rename_i c n f he
    split at E
    · rename_i hc
      obtain ⟨rfl, hk⟩ := hc
      cases E
      exact ⟨n, f, he, hk, rfl⟩
    · cases E
  · cases E
theorem zast_spec {t : Nat} {h h1 : AH} {a : Nat} {i v : Int32} (E : zast t h a i v = some h1) : ∃ n f, h.2 a = some (.inl (t, n, .inl f)) ∧ vp_in i n ∧ h1 = (h.1, va_up h.2 a (some (.inl (t, n, .inl (upd f i.toNatClampNeg v))))) := by
  unfold zast at E
  split at E
  · rename_i c n f he
    split at E
    · rename_i hc
      obtain ⟨rfl, hk⟩ := hc
      cases E
      exact ⟨n, f, he, hk, rfl⟩
    · cases E
  · cases E
theorem zlald_spec {h : AH} {a : Nat} {i : Int32} {v : Int64} (E : zlald h a i = some v) : ∃ n f, h.2 a = some (.inl (3, n, .inr (.inl f))) ∧ vp_in i n ∧ v = f i.toNatClampNeg := by
  unfold zlald at E
  split at E
  · rename_i c n f he
    split at E
    · rename_i hc
      obtain ⟨rfl, hk⟩ := hc
      cases E
      exact ⟨n, f, he, hk, rfl⟩
    · cases E
  · cases E
theorem zlast_spec {h h1 : AH} {a : Nat} {i : Int32} {v : Int64} (E : zlast h a i v = some h1) : ∃ n f, h.2 a = some (.inl (3, n, .inr (.inl f))) ∧ vp_in i n ∧ h1 = (h.1, va_up h.2 a (some (.inl (3, n, .inr (.inl (vp_updL f i.toNatClampNeg v)))))) := by
  unfold zlast at E
  split at E
  · rename_i c n f he
    split at E
    · rename_i hc
      obtain ⟨rfl, hk⟩ := hc
      cases E
      exact ⟨n, f, he, hk, rfl⟩
    · cases E
  · cases E
theorem zaald_spec {t : Nat} {h : AH} {a : Nat} {i : Int32} {v : Nat} (E : zaald t h a i = some v) : ∃ n f, h.2 a = some (.inl (t, n, .inr (.inr (.inr (.inr f))))) ∧ vp_in i n ∧ f i.toNatClampNeg = some v := by
  unfold zaald at E
  split at E
  · rename_i c n f he
    split at E
    · rename_i hc
      obtain ⟨rfl, hk⟩ := hc
      exact ⟨n, f, he, hk, E⟩
    · cases E
  · cases E
theorem zlen_spec {h : AH} {a : Nat} {v : Int32} (E : zlen h a = some v) : ∃ (t : Nat) (x : vp_A), h.2 a = some (.inl (t, x)) ∧ t < 8 ∧ Int32.ofNat x.1 = v := by
  unfold zlen at E
  split at E
  · rename_i c x he
    split at E
    · rename_i hc
      cases E
      exact ⟨c, x, he, hc, rfl⟩
    · cases E
  · cases E
theorem zis_spec {h : AH} {a ci : Nat} {v : Unit} (E : zis h a ci = some v) : ∃ fs, h.2 a = some (.inr (ci, fs)) := by
  unfold zis at E
  split at E
  · rename_i c fs he
    split at E
    · rename_i hc
      subst hc
      exact ⟨fs, he⟩
    · cases E
  · cases E
theorem zkind_spec {h : AH} {a ci : Nat} (E : zkind h a = some ci) : ∃ fs, h.2 a = some (.inr (ci, fs)) := by
  unfold zkind at E
  split at E
  · rename_i c fs he
    cases E
    exact ⟨fs, he⟩
  · cases E
theorem zis_of_kind {h : AH} {a ci : Nat} (E : zkind h a = some ci) : zis h a ci = some () := by
  obtain ⟨fs, he⟩ := zkind_spec E
  unfold zis
  rw [he]
  simp
theorem zR.one {g : zG} {h : AH} {H : Heap} {a : Nat} {e : va_E} (hR : zR g h H) (he : h.2 a = some e) : va_P g.1 vwCl [(a, zE g e)] H := by
  intro k q hk
  have h0 : k < 1 := (List.getElem?_eq_some_iff.mp hk).1
  rw [show k = 0 by omega] at hk
  cases hk
  exact (hR.2.2 a e he).1
theorem zR.set {g : zG} {h : AH} {H H1 : Heap} {a : Nat} {e0 e : va_E} (hR : zR g h H) (h0 : h.2 a = some e0) (he : va_at g.1 vwCl (a, zE g e) H1) (z : H1.size = H.size) (oq : ∀ q : Nat, q ≠ a → H1[q]? = H[q]?) : zR g (h.1, va_up h.2 a (some e)) H1 := by
  refine ⟨z.trans hR.1, hR.2.1, fun b e' hb => ?_⟩
  by_cases hba : b = a
  · subst hba
    have h1 : va_up h.2 b (some e) b = some e := by simp [va_up]
    have h2 : some e = some e' := h1.symm.trans hb
    cases h2
    exact ⟨he, (hR.2.2 b e0 h0).2⟩
  · have h1 : va_up h.2 a (some e) b = h.2 b := by simp [va_up, hba]
    have h2 := hR.2.2 b e' (h1.symm.trans hb)
    exact ⟨h2.1.kept (oq b hba), h2.2⟩
/-- a field's link, its kind and place -/
def zFg (own : String) (i ci k : Nat) : Prop := ∃ (C : String) (T : u_T) (N : Nat), vwCl[ci]? = some (C, T, N) ∧ k < N ∧ Cond.fieldLink own i (T k).1 (T k).2.1 (T k).2.2.1 ∈ tblG ∧ ∀ w ∈ u_ws C T N, w ∈ tblG
def zFp (own : String) (i ci k : Nat) (ty : FieldType) (fin : Bool) : Prop := ∃ (C : String) (T : u_T) (N : Nat) (tf : Nat → FieldType), vwCl[ci]? = some (C, T, N) ∧ k < N ∧ Cond.fieldLink own i (T k).1 (T k).2.1 (T k).2.2.1 ∈ tblG ∧ (∀ w ∈ u_ws C T N, w ∈ tblG) ∧ (∀ k, k < N → parseFieldDescriptor (T k).2.2.1 = some (tf k)) ∧ (∀ a, a < N → ∀ b, b < N → a ≠ b → (T a).2.1 ≠ (T b).2.1) ∧ (T k).2.2.2 = fin ∧ tf k = ty ∧ (fin = true → (T k).1 = own)
section
variable {X : zX} {g : zG} {y : MethodName} {cc : ByteArray} {nL lev mc ms : Nat} {rt : Option FieldType} {u : Nat × Nat × Nat × Nat} {T : Type} {rv : T → Option Value} {F : Option (T × AH)} {h : AH} {pc pc' : Nat} {lv lv' : List (Nat × Value)} {st : List Value} {a : Nat}
theorem z_getI (C : zC X g y cc nL lev mc ms rt) {i ci k : Nat} {G : Int32 → Option (T × AH)} (w : zFg y.cls i ci k) (d : zD cc pc (.getfield i) 3 pc') (kk : ∀ v, ZZ X g nL u rv (G v) h pc' lv (.int v :: st)) : ZZ X g nL u rv ((zgI h a ci k).bind G) h pc lv (.ref a :: st) := by
  obtain ⟨p, l, e, R, s, m, args, below, meth, c⟩ := X
  obtain ⟨⟨hx, hb, hml, hown, hts⟩, hr, hlk, hnm, hS0, hRf, hRl, hRc, hRs, hzs⟩ := C
  obtain ⟨hd, rfl⟩ := d
  intro r h' E H locs ls hR hS hl
  obtain ⟨v, hv, E⟩ := Option.bind_eq_some_iff.mp E
  obtain ⟨fs, he, hk⟩ := zgI_spec hv
  obtain ⟨C0, T0, N0, hc, hkN, hln, hin⟩ := w
  exact va_get (D := g.1) (cl := vwCl) (ws := [(a, .inr (ci, fs))]) hx hb hts hin hown hS0.1 (hR.one he) 0 rfl hc k hkN (hts _ hln) (fun _ q => q) hk hd (kk v r h' E H locs ls hR hS hl)
theorem z_getR (C : zC X g y cc nL lev mc ms rt) {i ci k : Nat} {G : Nat → Option (T × AH)} (w : zFg y.cls i ci k) (d : zD cc pc (.getfield i) 3 pc') (kk : ∀ v, ZZ X g nL u rv (G v) h pc' lv (.ref v :: st)) : ZZ X g nL u rv ((zgR h a ci k).bind G) h pc lv (.ref a :: st) := by
  obtain ⟨p, l, e, R, s, m, args, below, meth, c⟩ := X
  obtain ⟨⟨hx, hb, hml, hown, hts⟩, hr, hlk, hnm, hS0, hRf, hRl, hRc, hRs, hzs⟩ := C
  obtain ⟨hd, rfl⟩ := d
  intro r h' E H locs ls hR hS hl
  obtain ⟨v, hv, E⟩ := Option.bind_eq_some_iff.mp E
  obtain ⟨fs, he, hk⟩ := zgR_spec hv
  obtain ⟨C0, T0, N0, hc, hkN, hln, hin⟩ := w
  exact va_get (D := g.1) (cl := vwCl) (ws := [(a, .inr (ci, fs))]) hx hb hts hin hown hS0.1 (hR.one he) 0 rfl hc k hkN (hts _ hln) (fun _ q => q) hk hd (kk v r h' E H locs ls hR hS hl)
theorem z_put (C : zC X g y cc nL lev mc ms rt) {i ci k : Nat} {ty : FieldType} {v : Value} {G : AH → Option (T × AH)} (w : zFp y.cls i ci k ty false) (hn : narrow ty v = v) (hf : fits ty v = true) (d : zD cc pc (.putfield i) 3 pc') (kk : ∀ h1, ZZ X g nL u rv (G h1) h1 pc' lv st) : ZZ X g nL u rv ((zput h a ci k v).bind G) h pc lv (v :: .ref a :: st) := by
  obtain ⟨p, l, e, R, s, m, args, below, meth, c⟩ := X
  obtain ⟨⟨hx, hb, hml, hown, hts⟩, hr, hlk, hnm, hS0, hRf, hRl, hRc, hRs, hzs⟩ := C
  obtain ⟨hd, rfl⟩ := d
  intro r h' E H locs ls hR hS hl
  obtain ⟨h1, hv, E⟩ := Option.bind_eq_some_iff.mp E
  obtain ⟨fs, he, hl0, rfl⟩ := zput_spec hv
  obtain ⟨C0, T0, N0, tf, hc, hkN, hln, hin, hty, hnm0, hfin, htk, hdecl⟩ := w
  have hap := va_apart (own := y.cls) hts hin tf hty hnm0 hS0.1 hc
  obtain ⟨r0, q0, cell, q1, q2, q3, q4⟩ := (hR.2.2 a _ he).1
  have hr0 : r0 = (C0, T0, N0) := Option.some.inj (q0.symm.trans hc)
  subst hr0
  obtain ⟨hSl, hfc, kC, hkC, hkind⟩ := hS0.1.1 ci _ hc
  obtain ⟨cf, kf, fi, f, hi, hsl⟩ := hSl k hkN
  have hlay := hts _ (hin _ (u_in_lay hkN))
  unfold u_lay at hlay
  rw [if_neg (by rw [hfin]; decide)] at hlay
  have hst := (u_facts hfc hkC (u_lays hts hin hkN) hi).1
  have h6 := u_store hfc hkC hkind hlay hi (by rw [hty k hkN, htk]) hn hf
  refine W.putK hx hb (f := f) ⟨hown, hts _ hln, ⟨_, _, _, hi⟩, hst⟩ (by rw [q2]; exact h6) q1 q3 (by rw [hsl]; exact k2_hasslot (q4 k hkN)) rfl rfl hd fun H' e1 e2 e3 => ?_
  rw [hsl] at e1 ⊢
  have hR1 := hR.set (e := .inr (ci, fs.set k v)) he ⟨_, hc, t_OB.to (V := updV (vp_V fs) k v) ⟨_, e1, q2, q3, t_set q4 hap hkN v⟩ (fun j _ => vp_updV_set hl0 v j)⟩ e2 e3
  exact kk _ r h' E H' _ ls hR1 (hS.put e2 e3 (hR.2.2 a _ he).2) hl
theorem z_putI (C : zC X g y cc nL lev mc ms rt) {i ci k : Nat} {v : Int32} {G : AH → Option (T × AH)} (w : zFp y.cls i ci k .int false) (d : zD cc pc (.putfield i) 3 pc') (kk : ∀ h1, ZZ X g nL u rv (G h1) h1 pc' lv st) : ZZ X g nL u rv ((zput h a ci k (.int v)).bind G) h pc lv (.int v :: .ref a :: st) := z_put C w rfl rfl d kk
theorem z_putZ (C : zC X g y cc nL lev mc ms rt) {i ci k : Nat} {v : Int32} {G : AH → Option (T × AH)} (w : zFp y.cls i ci k .boolean false) (d : zD cc pc (.putfield i) 3 pc') (kk : ∀ h1, ZZ X g nL u rv (G h1) h1 pc' lv st) : ZZ X g nL u rv ((zputZ h a ci k v).bind G) h pc lv (.int v :: .ref a :: st) := by
  by_cases hv : v = 0 ∨ v = 1
  · have e : zputZ h a ci k v = zput h a ci k (.int v) := by unfold zputZ; rw [if_pos hv]
    rw [e]
    rcases hv with rfl | rfl
    · exact z_put C w rfl rfl d kk
    · exact z_put C w rfl rfl d kk
  · have e : zputZ h a ci k v = none := by unfold zputZ; rw [if_neg hv]
    rw [e]
    exact z_none
theorem z_putF (C : zC X g y cc nL lev mc ms rt) (hyn : y.name = "<init>") {i ci k : Nat} {ty : FieldType} {v : Value} {G : AH → Option (T × AH)} (w : zFp y.cls i ci k ty true) (hn : narrow ty v = v) (hf : fits ty v = true) (d : zD cc pc (.putfield i) 3 pc') (kk : ∀ h1, ZZ X g nL u rv (G h1) h1 pc' lv st) : ZZ X g nL u rv ((zput h a ci k v).bind G) h pc lv (v :: .ref a :: st) := by
  obtain ⟨p, l, e, R, s, m, args, below, meth, c⟩ := X
  obtain ⟨⟨hx, hb, hml, hown, hts⟩, hr, hlk, hnm, hS0, hRf, hRl, hRc, hRs, hzs⟩ := C
  obtain ⟨hd, rfl⟩ := d
  intro r h' E H locs ls hR hS hl
  obtain ⟨h1, hv, E⟩ := Option.bind_eq_some_iff.mp E
  obtain ⟨fs, he, hl0, rfl⟩ := zput_spec hv
  obtain ⟨C0, T0, N0, tf, hc, hkN, hln, hin, hty, hnm0, hfin, htk, hdecl⟩ := w
  have hap := va_apart (own := y.cls) hts hin tf hty hnm0 hS0.1 hc
  obtain ⟨r0, q0, cell, q1, q2, q3, q4⟩ := (hR.2.2 a _ he).1
  have hr0 : r0 = (C0, T0, N0) := Option.some.inj (q0.symm.trans hc)
  subst hr0
  obtain ⟨hSl, hfc, kC, hkC, hkind⟩ := hS0.1.1 ci _ hc
  obtain ⟨cf, kf, fi, f, hi, hsl⟩ := hSl k hkN
  have hlay := hts _ (hin _ (u_in_lay hkN))
  unfold u_lay at hlay
  rw [if_pos hfin] at hlay
  have hst := (u_facts hfc hkC (u_lays hts hin hkN) hi).1
  have hcf : m.cls = cf := by
    obtain ⟨_, _, c', _, _, _, -, -, hf', -, -, -, hown2, -⟩ := Cond.laysFinal_spec hlay
    have e1 : c' = cf := by have := hi.symm.trans hf'; simp at this; exact this.1.symm
    rw [hdecl rfl] at hown2
    rw [← e1]; exact Option.some.inj (hown.symm.trans hown2)
  have h6 := u_fits hfc hkC hkind (Or.inr hlay) hi (by rw [hty k hkN, htk]) hn hf
  refine W.putFinK hx hb hown (hts _ hln) hi hst hcf (hnm.trans hyn) (by rw [q2]; exact h6) q1 q3 (by rw [hsl]; exact k2_hasslot (q4 k hkN)) rfl rfl hd fun H' e1 e2 e3 => ?_
  rw [hsl] at e1 ⊢
  have hR1 := hR.set (e := .inr (ci, fs.set k v)) he ⟨_, hc, t_OB.to (V := updV (vp_V fs) k v) ⟨_, e1, q2, q3, t_set q4 hap hkN v⟩ (fun j _ => vp_updV_set hl0 v j)⟩ e2 e3
  exact kk _ r h' E H' _ ls hR1 (hS.put e2 e3 (hR.2.2 a _ he).2) hl
theorem z_iaload (C : zC X g y cc nL lev mc ms rt) {i : Int32} {G : Int32 → Option (T × AH)} (d : zD cc pc .iaload 1 pc') (kk : ∀ v, ZZ X g nL u rv (G v) h pc' lv (.int v :: st)) : ZZ X g nL u rv ((zald 0 h a i).bind G) h pc lv (.int i :: .ref a :: st) := by
  obtain ⟨p, l, e, R, s, m, args, below, meth, c⟩ := X
  obtain ⟨⟨hx, hb, hml, hown, hts⟩, hr, hlk, hnm, hS0, hRf, hRl, hRc, hRs, hzs⟩ := C
  obtain ⟨hd, rfl⟩ := d
  intro r h' E H locs ls hR hS hl
  obtain ⟨v, hv, E⟩ := Option.bind_eq_some_iff.mp E
  obtain ⟨n, f, he, hin, rfl⟩ := zald_spec hv
  exact va_iald (D := g.1) (cl := vwCl) (ws := [(a, .inl (g.2.1 0, n, .inl f))]) hx hb hS0.1 (hR.one he) 0 0 rfl rfl hin hd (kk _ r h' E H locs ls hR hS hl)
theorem z_baload (C : zC X g y cc nL lev mc ms rt) {i : Int32} {G : Int32 → Option (T × AH)} (d : zD cc pc .baload 1 pc') (kk : ∀ v, ZZ X g nL u rv (G v) h pc' lv (.int v :: st)) : ZZ X g nL u rv ((zald 1 h a i).bind G) h pc lv (.int i :: .ref a :: st) := by
  obtain ⟨p, l, e, R, s, m, args, below, meth, c⟩ := X
  obtain ⟨⟨hx, hb, hml, hown, hts⟩, hr, hlk, hnm, hS0, hRf, hRl, hRc, hRs, hzs⟩ := C
  obtain ⟨hd, rfl⟩ := d
  intro r h' E H locs ls hR hS hl
  obtain ⟨v, hv, E⟩ := Option.bind_eq_some_iff.mp E
  obtain ⟨n, f, he, hin, rfl⟩ := zald_spec hv
  exact va_bald (D := g.1) (cl := vwCl) (ws := [(a, .inl (g.2.1 1, n, .inl f))]) hx hb hS0.1 (hR.one he) 0 1 rfl rfl hin hd (kk _ r h' E H locs ls hR hS hl)
theorem z_caload (C : zC X g y cc nL lev mc ms rt) {i : Int32} {G : Int32 → Option (T × AH)} (d : zD cc pc .caload 1 pc') (kk : ∀ v, ZZ X g nL u rv (G v) h pc' lv (.int v :: st)) : ZZ X g nL u rv ((zald 2 h a i).bind G) h pc lv (.int i :: .ref a :: st) := by
  obtain ⟨p, l, e, R, s, m, args, below, meth, c⟩ := X
  obtain ⟨⟨hx, hb, hml, hown, hts⟩, hr, hlk, hnm, hS0, hRf, hRl, hRc, hRs, hzs⟩ := C
  obtain ⟨hd, rfl⟩ := d
  intro r h' E H locs ls hR hS hl
  obtain ⟨v, hv, E⟩ := Option.bind_eq_some_iff.mp E
  obtain ⟨n, f, he, hin, rfl⟩ := zald_spec hv
  exact va_cald (D := g.1) (cl := vwCl) (ws := [(a, .inl (g.2.1 2, n, .inl f))]) hx hb hS0.1 (hR.one he) 0 2 rfl rfl hin hd (kk _ r h' E H locs ls hR hS hl)
theorem z_laload (C : zC X g y cc nL lev mc ms rt) {i : Int32} {G : Int64 → Option (T × AH)} (d : zD cc pc .laload 1 pc') (kk : ∀ v, ZZ X g nL u rv (G v) h pc' lv (.long v :: st)) : ZZ X g nL u rv ((zlald h a i).bind G) h pc lv (.int i :: .ref a :: st) := by
  obtain ⟨p, l, e, R, s, m, args, below, meth, c⟩ := X
  obtain ⟨⟨hx, hb, hml, hown, hts⟩, hr, hlk, hnm, hS0, hRf, hRl, hRc, hRs, hzs⟩ := C
  obtain ⟨hd, rfl⟩ := d
  intro r h' E H locs ls hR hS hl
  obtain ⟨v, hv, E⟩ := Option.bind_eq_some_iff.mp E
  obtain ⟨n, f, he, hin, rfl⟩ := zlald_spec hv
  exact va_lald (D := g.1) (cl := vwCl) (ws := [(a, .inl (g.2.1 3, n, .inr (.inl f)))]) hx hb hS0.1 (hR.one he) 0 3 rfl rfl hin hd (kk _ r h' E H locs ls hR hS hl)
theorem z_aaload (C : zC X g y cc nL lev mc ms rt) {t : Nat} {i : Int32} {G : Nat → Option (T × AH)} (ht : 4 ≤ t ∧ t < 8) (d : zD cc pc .aaload 1 pc') (kk : ∀ v, ZZ X g nL u rv (G v) h pc' lv (.ref v :: st)) : ZZ X g nL u rv ((zaald t h a i).bind G) h pc lv (.int i :: .ref a :: st) := by
  obtain ⟨p, l, e, R, s, m, args, below, meth, c⟩ := X
  obtain ⟨⟨hx, hb, hml, hown, hts⟩, hr, hlk, hnm, hS0, hRf, hRl, hRc, hRs, hzs⟩ := C
  obtain ⟨hd, rfl⟩ := d
  intro r h' E H locs ls hR hS hl
  obtain ⟨v, hv, E⟩ := Option.bind_eq_some_iff.mp E
  obtain ⟨n, f, he, hin, hf⟩ := zaald_spec hv
  have hlt : i.toNatClampNeg < n := Nat.not_le.mp fun q => hin (Or.inr q)
  have hty : ∃ ty : FieldType, (zTys g)[t]? = some (g.2.1 t, ty) ∧ ty.isReference = true := by
    obtain ⟨h4, h8⟩ := ht
    rcases (show t = 4 ∨ t = 5 ∨ t = 6 ∨ t = 7 by omega) with rfl | rfl | rfl | rfl
    · exact ⟨_, rfl, rfl⟩
    · exact ⟨_, rfl, rfl⟩
    · exact ⟨_, rfl, rfl⟩
    · exact ⟨_, rfl, rfl⟩
  obtain ⟨ty, ht1, ht2⟩ := hty
  have hcell : H[a]? = some (vp_cell (g.2.1 t) (n, .inr (.inr (.inr (.inr f))))) := (hR.2.2 a _ he).1
  refine W.aald (v := va_rf (f i.toNatClampNeg)) (ty := ty) hx hb hcell ((hS0.1.2 t _ ht1).1 n (fun j => va_rf (f j))) ht2 (fun q => by cases q) (by show ¬ (i < 0 ∨ (arrV _ _ _).slots.size ≤ _); rw [arrV_size]; exact hin) (by show (arrV _ _ _).slots[_]? = _; rw [arrV_read _ _ hlt]) rfl rfl hd ?_
  rw [hf]
  exact kk _ r h' E H locs ls hR hS hl
theorem z_alen (C : zC X g y cc nL lev mc ms rt) {G : Int32 → Option (T × AH)} (d : zD cc pc .arraylength 1 pc') (kk : ∀ v, ZZ X g nL u rv (G v) h pc' lv (.int v :: st)) : ZZ X g nL u rv ((zlen h a).bind G) h pc lv (.ref a :: st) := by
  obtain ⟨p, l, e, R, s, m, args, below, meth, c⟩ := X
  obtain ⟨⟨hx, hb, hml, hown, hts⟩, hr, hlk, hnm, hS0, hRf, hRl, hRc, hRs, hzs⟩ := C
  obtain ⟨hd, rfl⟩ := d
  intro r h' E H locs ls hR hS hl
  obtain ⟨v, hv, E⟩ := Option.bind_eq_some_iff.mp E
  obtain ⟨t, x, he, ht, hv⟩ := zlen_spec hv
  have hty : ∃ ty : FieldType, (zTys g)[t]? = some (g.2.1 t, ty) := by
    rcases (show t = 0 ∨ t = 1 ∨ t = 2 ∨ t = 3 ∨ t = 4 ∨ t = 5 ∨ t = 6 ∨ t = 7 by omega) with rfl | rfl | rfl | rfl | rfl | rfl | rfl | rfl <;> exact ⟨_, rfl⟩
  obtain ⟨ty, ht1⟩ := hty
  exact va_alen (D := g.1) (cl := vwCl) (ws := [(a, .inl (g.2.1 t, x))]) hx hb hS0.1 (hR.one he) 0 t rfl ht1 hv hd (kk _ r h' E H locs ls hR hS hl)
theorem z_iastore (C : zC X g y cc nL lev mc ms rt) {i v : Int32} {G : AH → Option (T × AH)} (d : zD cc pc .iastore 1 pc') (kk : ∀ h1, ZZ X g nL u rv (G h1) h1 pc' lv st) : ZZ X g nL u rv ((zast 0 h a i v).bind G) h pc lv (.int v :: .int i :: .ref a :: st) := by
  obtain ⟨p, l, e, R, s, m, args, below, meth, c⟩ := X
  obtain ⟨⟨hx, hb, hml, hown, hts⟩, hr, hlk, hnm, hS0, hRf, hRl, hRc, hRs, hzs⟩ := C
  obtain ⟨hd, rfl⟩ := d
  intro r h' E H locs ls hR hS hl
  obtain ⟨h1, hv, E⟩ := Option.bind_eq_some_iff.mp E
  obtain ⟨n, f, he, hin, rfl⟩ := zast_spec hv
  have hcell : H[a]? = some (vp_cell (g.2.1 0) (n, .inl f)) := (hR.2.2 a _ he).1
  refine W.iast hx hb hcell ((hS0.1.2 0 _ rfl).1 n (fun j => .int (f j))) (fun q => by cases q) (by show ¬ (i < 0 ∨ (arrV _ _ _).slots.size ≤ _); rw [arrV_size]; exact hin) rfl rfl hd fun H1 e1 z1 o1 => ?_
  refine kk _ r h' E H1 _ ls (hR.set he ?_ z1 o1) (hS.put z1 o1 (hR.2.2 a _ he).2) hl
  show H1[a]? = some (vp_cell (g.2.1 0) _)
  rw [e1]
  rw [vp_cell_i, vp_cell_i, arrV_store]
  congr 2
  funext q
  by_cases hq : q = i.toNatClampNeg
  · subst hq
    simp [updV, upd, vp_nar, narrow]
  · simp [updV, upd, hq]
theorem z_bastore (C : zC X g y cc nL lev mc ms rt) {i v : Int32} {G : AH → Option (T × AH)} (d : zD cc pc .bastore 1 pc') (kk : ∀ h1, ZZ X g nL u rv (G h1) h1 pc' lv st) : ZZ X g nL u rv ((zast 1 h a i (vp_nar .byte v)).bind G) h pc lv (.int v :: .int i :: .ref a :: st) := by
  obtain ⟨p, l, e, R, s, m, args, below, meth, c⟩ := X
  obtain ⟨⟨hx, hb, hml, hown, hts⟩, hr, hlk, hnm, hS0, hRf, hRl, hRc, hRs, hzs⟩ := C
  obtain ⟨hd, rfl⟩ := d
  intro r h' E H locs ls hR hS hl
  obtain ⟨h1, hv, E⟩ := Option.bind_eq_some_iff.mp E
  obtain ⟨n, f, he, hin, rfl⟩ := zast_spec hv
  have hcell : H[a]? = some (vp_cell (g.2.1 1) (n, .inl f)) := (hR.2.2 a _ he).1
  refine W.bast hx hb hcell ((hS0.1.2 1 _ rfl).1 n (fun j => .int (f j))) (fun q => by cases q) (by show ¬ (i < 0 ∨ (arrV _ _ _).slots.size ≤ _); rw [arrV_size]; exact hin) rfl rfl hd fun H1 e1 z1 o1 => ?_
  refine kk _ r h' E H1 _ ls (hR.set he ?_ z1 o1) (hS.put z1 o1 (hR.2.2 a _ he).2) hl
  show H1[a]? = some (vp_cell (g.2.1 1) _)
  rw [e1]
  rw [vp_cell_i, vp_cell_i, arrV_store]
  congr 2
  funext q
  by_cases hq : q = i.toNatClampNeg
  · subst hq
    simp [updV, upd, vp_nar, narrow]
  · simp [updV, upd, hq]
theorem z_castore (C : zC X g y cc nL lev mc ms rt) {i v : Int32} {G : AH → Option (T × AH)} (d : zD cc pc .castore 1 pc') (kk : ∀ h1, ZZ X g nL u rv (G h1) h1 pc' lv st) : ZZ X g nL u rv ((zast 2 h a i (vp_nar .char v)).bind G) h pc lv (.int v :: .int i :: .ref a :: st) := by
  obtain ⟨p, l, e, R, s, m, args, below, meth, c⟩ := X
  obtain ⟨⟨hx, hb, hml, hown, hts⟩, hr, hlk, hnm, hS0, hRf, hRl, hRc, hRs, hzs⟩ := C
  obtain ⟨hd, rfl⟩ := d
  intro r h' E H locs ls hR hS hl
  obtain ⟨h1, hv, E⟩ := Option.bind_eq_some_iff.mp E
  obtain ⟨n, f, he, hin, rfl⟩ := zast_spec hv
  have hcell : H[a]? = some (vp_cell (g.2.1 2) (n, .inl f)) := (hR.2.2 a _ he).1
  refine W.cast hx hb hcell ((hS0.1.2 2 _ rfl).1 n (fun j => .int (f j))) (fun q => by cases q) (by show ¬ (i < 0 ∨ (arrV _ _ _).slots.size ≤ _); rw [arrV_size]; exact hin) rfl rfl hd fun H1 e1 z1 o1 => ?_
  refine kk _ r h' E H1 _ ls (hR.set he ?_ z1 o1) (hS.put z1 o1 (hR.2.2 a _ he).2) hl
  show H1[a]? = some (vp_cell (g.2.1 2) _)
  rw [e1]
  rw [vp_cell_i, vp_cell_i, arrV_store]
  congr 2
  funext q
  by_cases hq : q = i.toNatClampNeg
  · subst hq
    simp [updV, upd, vp_nar, narrow]
  · simp [updV, upd, hq]
theorem z_lastore (C : zC X g y cc nL lev mc ms rt) {i : Int32} {v : Int64} {G : AH → Option (T × AH)} (d : zD cc pc .lastore 1 pc') (kk : ∀ h1, ZZ X g nL u rv (G h1) h1 pc' lv st) : ZZ X g nL u rv ((zlast h a i v).bind G) h pc lv (.long v :: .int i :: .ref a :: st) := by
  obtain ⟨p, l, e, R, s, m, args, below, meth, c⟩ := X
  obtain ⟨⟨hx, hb, hml, hown, hts⟩, hr, hlk, hnm, hS0, hRf, hRl, hRc, hRs, hzs⟩ := C
  obtain ⟨hd, rfl⟩ := d
  intro r h' E H locs ls hR hS hl
  obtain ⟨h1, hv, E⟩ := Option.bind_eq_some_iff.mp E
  obtain ⟨n, f, he, hin, rfl⟩ := zlast_spec hv
  have hcell : H[a]? = some (vp_cell (g.2.1 3) (n, .inr (.inl f))) := (hR.2.2 a _ he).1
  refine W.last hx hb hcell ((hS0.1.2 3 _ rfl).1 n (fun j => .long (f j))) (fun q => by cases q) (by show ¬ (i < 0 ∨ (arrV _ _ _).slots.size ≤ _); rw [arrV_size]; exact hin) rfl rfl hd fun H1 e1 z1 o1 => ?_
  refine kk _ r h' E H1 _ ls (hR.set he ?_ z1 o1) (hS.put z1 o1 (hR.2.2 a _ he).2) hl
  show H1[a]? = some (vp_cell (g.2.1 3) _)
  rw [e1]
  rw [vp_cell_l, vp_cell_l, arrV_store]
  congr 2
  funext q
  by_cases hq : q = i.toNatClampNeg
  · subst hq
    simp [updV, vp_updL]
  · simp [updV, vp_updL, hq]
/-- the receiver's cell -/
theorem zR.recv {s : State} {H : Heap} {ci : Nat} {q : vw_C} {fs : List Value} (hK : va_K g.1 vwCl (zTys g) s) (hR : zR g h H) (hc : vwCl[ci]? = some q) (he : h.2 a = some (.inr (ci, fs))) : ∃ cell : Cell, H[a]? = some cell ∧ cell.vm.isStatics = false ∧ s.vm.findClass q.1 = some cell.cls := va_recv hK (hR.one he) hc (q0 := 0) (fs := fs) rfl
end
