def znew {β : Type} (h : AH) (e : va_E) (k : Nat → AH → β) : β := k h.1 (h.1 + 1, va_up h.2 h.1 (some e))
/-- n rows of k places, and the row that holds them ahead of them -/
def zgrid {β : Type} (h : AH) (n k : Nat) (f : Nat → AH → β) : β := f h.1 (h.1 + 1 + n, fun b => if b = h.1 then some (.inl (7, n, .inr (.inr (.inr (.inr (fun i => if i < n then some (h.1 + 1 + i) else none)))))) else if h.1 < b ∧ b < h.1 + 1 + n then some (.inl (0, k, .inl (fun _ => 0))) else h.2 b)
theorem zR.new {g : zG} {h : AH} {H H1 : Heap} {e : va_E} (hR : zR g h H) (he : va_at g.1 vwCl (H.size, zE g e) H1) (z : H1.size = H.size + 1) (oq : ∀ q : Nat, q < H.size → H1[q]? = H[q]?) : zR g (h.1 + 1, va_up h.2 h.1 (some e)) H1 := by
  refine ⟨by rw [z, hR.1], Nat.le_succ_of_le hR.2.1, fun b e' hb => ?_⟩
  by_cases hba : b = h.1
  · subst hba
    have h1 : va_up h.2 h.1 (some e) h.1 = some e := by simp [va_up]
    have h2 : some e = some e' := h1.symm.trans hb
    cases h2
    exact ⟨by rw [← hR.1]; exact he, hR.2.1⟩
  · have h1 : va_up h.2 h.1 (some e) b = h.2 b := by simp [va_up, hba]
    have h2 := hR.2.2 b e' (h1.symm.trans hb)
    exact ⟨h2.1.kept (oq b h2.1.lt), h2.2⟩
theorem zS_new {g : zG} {s : State} {H H1 : Heap} {locs : List Loc} (hS : va_S (zA g) s.heap H locs) (z : H.size ≤ H1.size) (oq : ∀ q : Nat, q < H.size → H1[q]? = H[q]?) : va_S (zA g) s.heap H1 locs := ⟨Nat.le_trans hS.1 z, fun q h1 h2 => (oq q (Nat.lt_of_lt_of_le h1 hS.1)).trans (hS.2.1 q h1 h2), hS.2.2⟩
theorem zOuter (c : ClassId) (N h0 : Nat) : ∀ i : Nat, Jvm.Free.Multi.outerC c N h0 i = arrV c N (fun j => va_rf (if j < i then some (h0 + 1 + j) else none))
  | 0 => by
    show ({ cls := c, slots := Array.replicate N .null, vm := .none } : Cell) = _
    rw [arrV_new]
    exact congrArg (arrV c N) (funext fun j => by simp [va_rf])
  | i + 1 => by
    show (Jvm.Free.Multi.outerC c N h0 i).setSlot i (.ref (h0 + 1 + i)) = _
    rw [zOuter c N h0 i, arrV_store]
    refine congrArg (arrV c N) (funext fun j => ?_)
    by_cases e : j = i
    · subst e
      simp [updV, va_rf]
    · by_cases h : j < i
      · simp [updV, e, h, Nat.lt_succ_of_lt h]
      · simp [updV, e, h, show ¬ j < i + 1 by omega]
/-- what the tables say of an object that is made -/
def zKN (own : String) (i ci N : Nat) (fs : List Value) : Prop := ∃ (C : String) (T : u_T) (tf : Nat → FieldType), vwCl[ci]? = some (C, T, N) ∧ (∀ w ∈ u_ws C T N, w ∈ tblG) ∧ (∀ k, k < N → parseFieldDescriptor (T k).2.2.1 = some (tf k)) ∧ Cond.classLink own i C ∈ tblG ∧ Cond.instantiable C N ∈ tblG ∧ Cond.initialized C ∈ tblG ∧ ∀ j, j < N → defaultValue (tf j) = vp_V fs j
section
variable {X : zX} {g : zG} {y y' : MethodName} {cc cc' : ByteArray} {nL nL' lev lev' mc ms mc' ms' n : Nat} {rt : Option FieldType} {u u' : Nat × Nat × Nat × Nat} {T Tc : Type} {rv : T → Option Value} {F : Option (T × AH)} {Fc : Option (Unit × AH)} {h : AH} {pc pc' i : Nat} {lv : List (Nat × Value)} {st rest : List Value} {b : Nat}
theorem z_new (C : zC X g y cc nL lev mc ms rt) {ci N : Nat} {fs : List Value} {G : Nat → AH → Option (T × AH)} (w : zKN y.cls i ci N fs) (hu : u' = (u.1 + 1, u.2.1 + N, u.2.2)) (hcs : u.1 + 1 ≤ mc ∧ u.2.1 + N ≤ ms) (d : zD cc pc (.new i) 3 pc') (kk : ∀ a h1, ZZ X g nL u' rv (G a h1) h1 pc' lv (.ref a :: st)) : ZZ X g nL u rv (znew h (.inr (ci, fs)) G) h pc lv st := by
  obtain ⟨p, l, e, R, s, m, args, below, meth, c⟩ := X
  obtain ⟨⟨hx, hb, hml, hown, hts⟩, hr, hlk, hnm, hS0, hRf, hRl, hRc, hRs, hzs⟩ := C
  obtain ⟨hd, rfl⟩ := d
  subst hu
  intro r h' E H locs ls hR hS hl
  obtain ⟨C0, T0, tf, hc, hin, hty, k1, k2, k3, k4⟩ := w
  have hKn := hS0.1.1 ci _ hc
  refine W.newcK hx hb hown (hts _ k1) (hts _ k2) (hts _ k3) rfl hd (Nat.le_trans hcs.1 hRc) (Nat.le_trans hcs.2 hRs) hKn.2.1 rfl fun H1 kC hkC e1 z1 o1 => ?_
  rw [hR.1]
  exact kk _ _ r h' E H1 locs ls (hR.new (e := .inr (ci, fs)) ⟨_, hc, (u_born tf hts hin hKn hkC e1 hty).to k4⟩ z1 o1) (zS_new hS (by omega) o1) hl
theorem z_newaI (C : zC X g y cc nL lev mc ms rt) {v : Int32} (N : Nat) {G : Nat → AH → Option (T × AH)} (w : Cond.arrayClass .int ∈ tblG) (hv : ¬ v < 0 ∧ v.toNatClampNeg = N ∧ N ≤ 10000) (hu : u' = (u.1 + 1, u.2.1 + N, u.2.2)) (hcs : u.1 + 1 ≤ mc ∧ u.2.1 + N ≤ ms) (d : zD cc pc (.newarray .int) 2 pc') (kk : ∀ a h1, ZZ X g nL u' rv (G a h1) h1 pc' lv (.ref a :: st)) : ZZ X g nL u rv (znew h (.inl (0, N, .inl (fun _ => 0))) G) h pc lv (.int v :: st) := by
  obtain ⟨p, l, e, R, s, m, args, below, meth, c⟩ := X
  obtain ⟨⟨hx, hb, hml, hown, hts⟩, hr, hlk, hnm, hS0, hRf, hRl, hRc, hRs, hzs⟩ := C
  obtain ⟨hd, rfl⟩ := d
  subst hu
  intro r h' E H locs ls hR hS hl
  obtain ⟨v1, v2, v3⟩ := hv
  refine va_newaK (atype := .int) hx hb (hts _ w) rfl hd rfl v1 v2 (by show N * _ ≤ 536870912; exact Nat.le_trans (Nat.mul_le_mul v3 (Nat.le_of_ble_eq_true rfl : _ ≤ 8)) (Nat.le_of_ble_eq_true rfl)) (Nat.le_trans hcs.1 hRc) (Nat.le_trans hcs.2 hRs) rfl fun H1 cA e1 z1 o1 hAr hNm => ?_
  have hcA : cA = g.2.1 0 := Option.some.inj (hNm.symm.trans (hS0.1.2 0 _ rfl).2)
  subst hcA
  rw [hR.1]
  exact kk _ _ r h' E H1 locs ls (hR.new (e := .inl (0, N, .inl (fun _ => 0))) e1 z1 o1) (zS_new hS (by omega) o1) hl
theorem z_newaB (C : zC X g y cc nL lev mc ms rt) {v : Int32} (N : Nat) {G : Nat → AH → Option (T × AH)} (w : Cond.arrayClass .byte ∈ tblG) (hv : ¬ v < 0 ∧ v.toNatClampNeg = N ∧ N ≤ 10000) (hu : u' = (u.1 + 1, u.2.1 + N, u.2.2)) (hcs : u.1 + 1 ≤ mc ∧ u.2.1 + N ≤ ms) (d : zD cc pc (.newarray .byte) 2 pc') (kk : ∀ a h1, ZZ X g nL u' rv (G a h1) h1 pc' lv (.ref a :: st)) : ZZ X g nL u rv (znew h (.inl (1, N, .inl (fun _ => 0))) G) h pc lv (.int v :: st) := by
  obtain ⟨p, l, e, R, s, m, args, below, meth, c⟩ := X
  obtain ⟨⟨hx, hb, hml, hown, hts⟩, hr, hlk, hnm, hS0, hRf, hRl, hRc, hRs, hzs⟩ := C
  obtain ⟨hd, rfl⟩ := d
  subst hu
  intro r h' E H locs ls hR hS hl
  obtain ⟨v1, v2, v3⟩ := hv
  refine va_newaK (atype := .byte) hx hb (hts _ w) rfl hd rfl v1 v2 (by show N * _ ≤ 536870912; exact Nat.le_trans (Nat.mul_le_mul v3 (Nat.le_of_ble_eq_true rfl : _ ≤ 8)) (Nat.le_of_ble_eq_true rfl)) (Nat.le_trans hcs.1 hRc) (Nat.le_trans hcs.2 hRs) rfl fun H1 cA e1 z1 o1 hAr hNm => ?_
  have hcA : cA = g.2.1 1 := Option.some.inj (hNm.symm.trans (hS0.1.2 1 _ rfl).2)
  subst hcA
  rw [hR.1]
  exact kk _ _ r h' E H1 locs ls (hR.new (e := .inl (1, N, .inl (fun _ => 0))) e1 z1 o1) (zS_new hS (by omega) o1) hl
theorem z_newaC (C : zC X g y cc nL lev mc ms rt) {v : Int32} (N : Nat) {G : Nat → AH → Option (T × AH)} (w : Cond.arrayClass .char ∈ tblG) (hv : ¬ v < 0 ∧ v.toNatClampNeg = N ∧ N ≤ 10000) (hu : u' = (u.1 + 1, u.2.1 + N, u.2.2)) (hcs : u.1 + 1 ≤ mc ∧ u.2.1 + N ≤ ms) (d : zD cc pc (.newarray .char) 2 pc') (kk : ∀ a h1, ZZ X g nL u' rv (G a h1) h1 pc' lv (.ref a :: st)) : ZZ X g nL u rv (znew h (.inl (2, N, .inl (fun _ => 0))) G) h pc lv (.int v :: st) := by
  obtain ⟨p, l, e, R, s, m, args, below, meth, c⟩ := X
  obtain ⟨⟨hx, hb, hml, hown, hts⟩, hr, hlk, hnm, hS0, hRf, hRl, hRc, hRs, hzs⟩ := C
  obtain ⟨hd, rfl⟩ := d
  subst hu
  intro r h' E H locs ls hR hS hl
  obtain ⟨v1, v2, v3⟩ := hv
  refine va_newaK (atype := .char) hx hb (hts _ w) rfl hd rfl v1 v2 (by show N * _ ≤ 536870912; exact Nat.le_trans (Nat.mul_le_mul v3 (Nat.le_of_ble_eq_true rfl : _ ≤ 8)) (Nat.le_of_ble_eq_true rfl)) (Nat.le_trans hcs.1 hRc) (Nat.le_trans hcs.2 hRs) rfl fun H1 cA e1 z1 o1 hAr hNm => ?_
  have hcA : cA = g.2.1 2 := Option.some.inj (hNm.symm.trans (hS0.1.2 2 _ rfl).2)
  subst hcA
  rw [hR.1]
  exact kk _ _ r h' E H1 locs ls (hR.new (e := .inl (2, N, .inl (fun _ => 0))) e1 z1 o1) (zS_new hS (by omega) o1) hl
theorem z_newaJ (C : zC X g y cc nL lev mc ms rt) {v : Int32} (N : Nat) {G : Nat → AH → Option (T × AH)} (w : Cond.arrayClass .long ∈ tblG) (hv : ¬ v < 0 ∧ v.toNatClampNeg = N ∧ N ≤ 10000) (hu : u' = (u.1 + 1, u.2.1 + N, u.2.2)) (hcs : u.1 + 1 ≤ mc ∧ u.2.1 + N ≤ ms) (d : zD cc pc (.newarray .long) 2 pc') (kk : ∀ a h1, ZZ X g nL u' rv (G a h1) h1 pc' lv (.ref a :: st)) : ZZ X g nL u rv (znew h (.inl (3, N, .inr (.inl (fun _ => 0)))) G) h pc lv (.int v :: st) := by
  obtain ⟨p, l, e, R, s, m, args, below, meth, c⟩ := X
  obtain ⟨⟨hx, hb, hml, hown, hts⟩, hr, hlk, hnm, hS0, hRf, hRl, hRc, hRs, hzs⟩ := C
  obtain ⟨hd, rfl⟩ := d
  subst hu
  intro r h' E H locs ls hR hS hl
  obtain ⟨v1, v2, v3⟩ := hv
  refine va_newaK (atype := .long) hx hb (hts _ w) rfl hd rfl v1 v2 (by show N * _ ≤ 536870912; exact Nat.le_trans (Nat.mul_le_mul v3 (Nat.le_of_ble_eq_true rfl : _ ≤ 8)) (Nat.le_of_ble_eq_true rfl)) (Nat.le_trans hcs.1 hRc) (Nat.le_trans hcs.2 hRs) rfl fun H1 cA e1 z1 o1 hAr hNm => ?_
  have hcA : cA = g.2.1 3 := Option.some.inj (hNm.symm.trans (hS0.1.2 3 _ rfl).2)
  subst hcA
  rw [hR.1]
  exact kk _ _ r h' E H1 locs ls (hR.new (e := .inl (3, N, .inr (.inl (fun _ => 0)))) e1 z1 o1) (zS_new hS (by omega) o1) hl
theorem z_anew (C : zC X g y cc nL lev mc ms rt) {v : Int32} (t N : Nat) {C0 : String} {G : Nat → AH → Option (T × AH)} (hC : (t, C0) ∈ [(4, "ButlerRemembers$House"), (5, "ButlerRemembers$Master"), (6, "ButlerRemembers$Tape")]) (w : Cond.classLink y.cls i C0 ∈ tblG) (hv : ¬ v < 0 ∧ v.toNatClampNeg = N ∧ N ≤ 10000) (hu : u' = (u.1 + 1, u.2.1 + N, u.2.2)) (hcs : u.1 + 1 ≤ mc ∧ u.2.1 + N ≤ ms) (d : zD cc pc (.anewarray i) 3 pc') (kk : ∀ a h1, ZZ X g nL u' rv (G a h1) h1 pc' lv (.ref a :: st)) : ZZ X g nL u rv (znew h (.inl (t, N, .inr (.inr (.inr (.inr (fun _ => none)))))) G) h pc lv (.int v :: st) := by
  obtain ⟨p, l, e, R, s, m, args, below, meth, c⟩ := X
  obtain ⟨⟨hx, hb, hml, hown, hts⟩, hr, hlk, hnm, hS0, hRf, hRl, hRc, hRs, hzs⟩ := C
  obtain ⟨hd, rfl⟩ := d
  subst hu
  intro r h' E H locs ls hR hS hl
  obtain ⟨v1, v2, v3⟩ := hv
  subst v2
  have hty : (zTys g)[t]? = some (g.2.1 t, .object C0) ∧ va_AO C0 s := by
    simp only [List.mem_cons, Prod.mk.injEq, List.not_mem_nil, or_false] at hC
    rcases hC with ⟨rfl, rfl⟩ | ⟨rfl, rfl⟩ | ⟨rfl, rfl⟩
    · exact ⟨rfl, hS0.2.2.2.2.2.2.1 _ (by decide)⟩
    · exact ⟨rfl, hS0.2.2.2.2.2.2.1 _ (by decide)⟩
    · exact ⟨rfl, hS0.2.2.2.2.2.2.1 _ (by decide)⟩
  refine W.anew hx hb hown (hts _ w) (va_AO.use hty.2) rfl hd rfl v1 (by omega) (Nat.le_trans hcs.1 hRc) (Nat.le_trans hcs.2 hRs) fun cA kA comp f1 f2 f3 f4 => ?_
  obtain ⟨kA', comp', g1, g2, g3, g4⟩ := (hS0.1.2 t _ hty.1).2
  have hcA : cA = g.2.1 t := Option.some.inj (f1.symm.trans g4)
  subst hcA
  generalize hH1 : H.push ({ cls := g.2.1 t, slots := Array.replicate v.toNatClampNeg .null, vm := .none } : Cell) = H1
  have z1 : H1.size = H.size + 1 := by rw [← hH1, Array.size_push]
  have e1 : H1[H.size]? = some (arrV (g.2.1 t) v.toNatClampNeg (fun _ => .null)) := by rw [← hH1, Array.getElem?_push_size, ← arrV_new]
  have o1 : ∀ q : Nat, q < H.size → H1[q]? = H[q]? := fun q hq => by rw [← hH1, Array.getElem?_push, if_neg (Nat.ne_of_lt hq)]
  show W p l e R s m args below meth c H1 locs _ _ _ (F0 m (pc + 3) ls (.ref H.size :: st))
  rw [hR.1]
  exact kk _ _ r h' E H1 locs ls (hR.new (e := .inl (t, v.toNatClampNeg, .inr (.inr (.inr (.inr (fun _ => none)))))) e1 z1 o1) (zS_new hS (by omega) o1) hl
theorem z_grid (C : zC X g y cc nL lev mc ms rt) {v k : Int32} (N K : Nat) {G : Nat → AH → Option (T × AH)} (w : Cond.classLink y.cls i "[[I" ∈ tblG) (wa : Cond.arrayClass .int ∈ tblG) (hv : ¬ v < 0 ∧ v.toNatClampNeg = N ∧ N ≤ 10000) (hk : ¬ k < 0 ∧ k.toNatClampNeg = K ∧ K ≤ 10000) (hu : u' = (u.1 + 1 + N, u.2.1 + N + N * K, u.2.2)) (hcs : u.1 + (1 + N) ≤ mc ∧ u.2.1 + (N + N * K) ≤ ms) (d : zD cc pc (.multianewarray i 2) 4 pc') (kk : ∀ a h1, ZZ X g nL u' rv (G a h1) h1 pc' lv (.ref a :: st)) : ZZ X g nL u rv (zgrid h N K G) h pc lv (.int k :: .int v :: st) := by
  obtain ⟨p, l, e, R, s, m, args, below, meth, c⟩ := X
  obtain ⟨⟨hx, hb, hml, hown, hts⟩, hr, hlk, hnm, hS0, hRf, hRl, hRc, hRs, hzs⟩ := C
  obtain ⟨hd, rfl⟩ := d
  subst hu
  intro r h' E H locs ls hR hS hl
  obtain ⟨v1, v2, v3⟩ := hv
  obtain ⟨k1, k2, k3⟩ := hk
  subst v2
  subst k2
  intro T hT Xs
  have hAO : (Cond.arrayOver (.array .int)).before args s = true := hS0.2.2.2.2.2.2.2.1
  obtain ⟨vm₁, cA, comp, -, fA, fC, hO, -, X', step⟩ := Xs.multianewarray2F hx hown (ty := .int) (hts _ w) hAO (hts _ wa) (g := F0 m pc ls (.int k :: .int v :: st)) rfl (by rw [hb]; exact hd) rfl v1 k1 (by omega) (by show k.toNatClampNeg * 4 ≤ _; omega) (by omega) rfl rfl (Nat.le_trans hcs.1 hRc) (Nat.le_trans hcs.2 hRs)
  have hc7 : cA = g.2.1 7 := Option.some.inj (fA.symm.trans (hS0.1.2 7 _ rfl).2)
  have hc0 : comp = g.2.1 0 := Option.some.inj (fC.symm.trans (hS0.1.2 0 _ rfl).2)
  subst hc7
  subst hc0
  generalize hF : Jvm.Free.Multi.fill (T.setVm vm₁) (g.2.1 7) (g.2.1 0) v.toNatClampNeg k.toNatClampNeg (defaultValue .int) v.toNatClampNeg = F1 at X' step
  have hTh : (T.setVm vm₁).heap = H := hT
  obtain ⟨f1, f2, -, -⟩ := Jvm.Free.Multi.fill_facts (T.setVm vm₁) (g.2.1 7) (g.2.1 0) v.toNatClampNeg k.toNatClampNeg (defaultValue .int) v.toNatClampNeg
  rw [hF, hTh] at f1 f2
  have hold : ∀ x : Nat, x < H.size → F1.heap[x]? = H[x]? := fun x hx => by
    have := Jvm.Free.Multi.fill_old (T.setVm vm₁) (g.2.1 7) (g.2.1 0) v.toNatClampNeg k.toNatClampNeg (defaultValue .int) (a := x) (by rw [hTh]; exact hx) v.toNatClampNeg
    rw [hF, hTh] at this
    exact this
  have hrow : ∀ j : Nat, j < v.toNatClampNeg → F1.heap[H.size + 1 + j]? = some (Jvm.Free.Multi.innerC (g.2.1 0) k.toNatClampNeg (defaultValue .int)) := fun j hj => by
    have := Jvm.Free.Multi.fill_inner (T.setVm vm₁) (g.2.1 7) (g.2.1 0) v.toNatClampNeg k.toNatClampNeg (defaultValue .int) v.toNatClampNeg j hj
    rw [hF, hTh] at this
    exact this
  have hin : Jvm.Free.Multi.innerC (g.2.1 0) k.toNatClampNeg (defaultValue .int) = vp_cell (g.2.1 0) (k.toNatClampNeg, .inl (fun _ => 0)) := by
    rw [vp_cell_i]
    exact arrV_new _ _ _
  have hout : Jvm.Free.Multi.outerC (g.2.1 7) v.toNatClampNeg H.size v.toNatClampNeg = vp_cell (g.2.1 7) (v.toNatClampNeg, .inr (.inr (.inr (.inr (fun i => if i < v.toNatClampNeg then some (H.size + 1 + i) else none))))) := by
    rw [vp_cell_q]
    exact zOuter (g.2.1 7) v.toNatClampNeg H.size v.toNatClampNeg
  rw [hout] at f2
  have hR1 : zR g (h.1 + 1 + v.toNatClampNeg, fun b => if b = h.1 then some (.inl (7, v.toNatClampNeg, .inr (.inr (.inr (.inr (fun i => if i < v.toNatClampNeg then some (h.1 + 1 + i) else none)))))) else if h.1 < b ∧ b < h.1 + 1 + v.toNatClampNeg then some (.inl (0, k.toNatClampNeg, .inl (fun _ => 0))) else h.2 b) F1.heap := by
    refine ⟨by rw [f1, hR.1], by have := hR.2.1; show _ ≤ h.1 + 1 + v.toNatClampNeg; omega, fun b e' hb => ?_⟩
    dsimp only at hb
    by_cases hb1 : b = h.1
    · subst hb1
      rw [if_pos rfl] at hb
      cases hb
      refine ⟨?_, hR.2.1⟩
      show F1.heap[h.1]? = _
      rw [← hR.1]
      exact f2
    · rw [if_neg hb1] at hb
      by_cases hb2 : h.1 < b ∧ b < h.1 + 1 + v.toNatClampNeg
      · rw [if_pos hb2] at hb
        cases hb
        refine ⟨?_, by have := hR.2.1; show _ ≤ b; omega⟩
        show F1.heap[b]? = some (vp_cell (g.2.1 0) _)
        have := hrow (b - h.1 - 1) (by omega)
        rw [hR.1, show h.1 + 1 + (b - h.1 - 1) = b by omega, hin] at this
        exact this
      · rw [if_neg hb2] at hb
        have h2 := hR.2.2 b e' hb
        exact ⟨h2.1.kept (hold b h2.1.lt), h2.2⟩
  obtain ⟨t, a1, b1⟩ := kk _ _ r h' E F1.heap locs ls hR1 (zS_new hS (by rw [f1]; omega) hold) hl F1 rfl X'
  refine ⟨t, step t ?_, b1⟩
  have e : T.heap.size = h.1 := by rw [hT, hR.1]
  rw [e]
  exact a1
theorem z_objInit (C : zC X g y cc nL lev mc ms rt) (w : Cond.methodLink y.cls i Lib.objectInit ∈ tblG) (w2 : Cond.instanceMethod Lib.objectInit ∈ tblG) (w3 : Cond.code Lib.objectInit ⟨#[0xb1]⟩ 1 none ∈ tblG) (hlev : 1 ≤ lev) (hW : (st.map fun v => v.category).sum ≤ 8) (d : zD cc pc (.invokespecial i) 3 pc') (kk : ZZ X g nL u rv F h pc' lv st) : ZZ X g nL u rv F h pc lv (.ref b :: st) := by
  obtain ⟨p, l, e, R, s, m, args, below, meth, c⟩ := X
  obtain ⟨⟨hx, hb, hml, hown, hts⟩, hr, hlk, hnm, hS0, hRf, hRl, hRc, hRs, hzs⟩ := C
  obtain ⟨hd, rfl⟩ := d
  intro r h' E H locs ls hR hS hl
  exact W.objInit hx hb hown (hts _ w) (hts _ w2) (hts _ w3) rfl (by rw [hml]; exact hl.1) rfl hd (Nat.le_trans hlev hRf) (by show 2 * 0 + _ + 12 ≤ _; omega) (kk r h' E H locs ls hR hS hl)
/-- a constructor of a nest mate -/
def zKI (own : String) (i : Nat) (y' : MethodName) (cc' : ByteArray) (nL' : Nat) : Prop := (∃ host, Cond.methodLinkNest own i y' host ∈ zNest) ∧ Cond.instanceMethod y' ∈ tblG ∧ Cond.initialized y'.cls ∈ tblG ∧ Cond.code y' cc' nL' none ∈ tblG ∧ nL' ≤ 80 ∧ y'.name = "<init>" ∧ zKd y' 0
theorem z_runIN (C : zC X g y cc nL lev mc ms rt) (kw : zKI y.cls i y' cc' nL') (M : zM X.2.1 g y' cc' nL' none lev' mc' ms' (fun _ : Unit => none) Fc h [.ref b]) (hlev : lev' + 1 ≤ lev) (hcs : u.1 + mc' ≤ mc ∧ u.2.1 + ms' ≤ ms) (d : zD cc pc (.invokespecial i) 3 pc') (hW : (rest.map fun v => v.category).sum ≤ 8) : zRun X g nL u mc' ms' (fun _ : Unit => none) Fc h pc lv (.ref b :: rest) rest := by
  obtain ⟨p, l, e, R, s, m, args, below, meth, c⟩ := X
  obtain ⟨⟨hx, hb, hml, hown, hts⟩, hr, hlk, hnm, hS0, hRf, hRl, hRc, hRs, hzs⟩ := C
  obtain ⟨hd, -⟩ := d
  obtain ⟨⟨host, k1⟩, k2, k3, k4, k5, k6, k7⟩ := kw
  intro r h' E H locs ls hR hS hl
  refine ⟨([Value.ref b] : List Value).toArray, ?_⟩
  exact va_runIN (Ts := tblG) (As := []) (rest := rest) ⟨hx, hb, hml, hown, hts⟩ (M r h' E) ⟨va_cnB 0 hts (zGood k4) rfl rfl rfl (hS0.2.2.2.2.2.1 _ k1) (hts _ k3) k7 (z_room hRf hRl hlev k5), k6, hts _ k2⟩ (z_pre (p := p) (l := l) (e := e) hS0 hR hS) rfl rfl hl.1 rfl (lv_room hW) hd ⟨Nat.le_trans hcs.1 hRc, Nat.le_trans hcs.2 hRs⟩
theorem z_callc {G : Unit → AH → Option (T × AH)} (run : zRun X g nL u mc' ms' (fun _ : Unit => none) Fc h pc lv st rest) (hu : u' = (u.1 + mc', u.2.1 + ms', u.2.2)) (hp : pc + 3 = pc') (kk : ∀ (r1 : Unit) (h1 : AH), ZZ X g nL u' rv (G r1 h1) h1 pc' lv rest) : ZZ X g nL u rv (zcall Fc G) h pc lv st := by
  subst hu
  exact z_call run hp kk
/-- storing an object into an array of its kind -/
def zaast (t : Nat) (h : AH) (a : Nat) (i : Int32) (v : Nat) : Option AH := match h.2 a, h.2 v with
  | some (.inl (c, n, .inr (.inr (.inr (.inr f))))), some (.inr (k, _)) => if (c = t ∧ ¬ (i < 0 ∨ n ≤ i.toNatClampNeg)) ∧ ((t = 4 ∧ k = 5) ∨ (t = 6 ∧ k = 8) ∨ (t = 5 ∧ (k = 0 ∨ k = 1 ∨ k = 2 ∨ k = 3 ∨ k = 4 ∨ k = 7 ∨ k = 9))) then some (h.1, va_up h.2 a (some (.inl (t, n, .inr (.inr (.inr (.inr (va_up f i.toNatClampNeg (some v))))))))) else none
  | _, _ => none
theorem zaast_spec {t : Nat} {h h1 : AH} {a v : Nat} {i : Int32} (E : zaast t h a i v = some h1) : ∃ (n : Nat) (f : Nat → Option Nat) (k : Nat) (vs : List Value), h.2 a = some (.inl (t, n, .inr (.inr (.inr (.inr f))))) ∧ h.2 v = some (.inr (k, vs)) ∧ vp_in i n ∧ ((t = 4 ∧ k = 5) ∨ (t = 6 ∧ k = 8) ∨ (t = 5 ∧ (k = 0 ∨ k = 1 ∨ k = 2 ∨ k = 3 ∨ k = 4 ∨ k = 7 ∨ k = 9))) ∧ h1 = (h.1, va_up h.2 a (some (.inl (t, n, .inr (.inr (.inr (.inr (va_up f i.toNatClampNeg (some v))))))))) := by
  unfold zaast at E
  split at E
  · rename_i c n f k vs he1 he2
    split at E
    · rename_i hc
      obtain ⟨⟨rfl, hk⟩, h3⟩ := hc
      cases E
      exact ⟨n, f, k, vs, he1, he2, hk, h3, rfl⟩
    · cases E
  · cases E
theorem z_aastore (C : zC X g y cc nL lev mc ms rt) {t a v : Nat} {i : Int32} {G : AH → Option (T × AH)} (d : zD cc pc .aastore 1 pc') (kk : ∀ h1, ZZ X g nL u rv (G h1) h1 pc' lv st) : ZZ X g nL u rv ((zaast t h a i v).bind G) h pc lv (.ref v :: .int i :: .ref a :: st) := by
  obtain ⟨p, l, e, R, s, m, args, below, meth, c⟩ := X
  obtain ⟨⟨hx, hb, hml, hown, hts⟩, hr, hlk, hnm, hS0, hRf, hRl, hRc, hRs, hzs⟩ := C
  obtain ⟨hd, rfl⟩ := d
  intro r h' E H locs ls hR hS hl
  obtain ⟨h1, hv, E⟩ := Option.bind_eq_some_iff.mp E
  obtain ⟨n, f, k, vs, he, hev, hin, hk, rfl⟩ := zaast_spec hv
  have hlt : i.toNatClampNeg < n := Nat.not_le.mp fun q => hin (Or.inr q)
  have h0 : ¬ i < 0 := fun q => hin (Or.inl q)
  obtain ⟨hK, hs1, hs2, hs3, hs4, hs5, hs6, hs7, hs8, hs9⟩ := hS0
  obtain ⟨r', hr', cellV, g1, g2, g3, -⟩ := (hR.2.2 v _ hev).1
  have hcell : H[a]? = some (vp_cell (g.2.1 t) (n, .inr (.inr (.inr (.inr f))))) := (hR.2.2 a _ he).1
  have hcv := (hK.1 k r' hr').2
  obtain ⟨kC, hkC, -⟩ := hcv.2
  have key : ∃ (kA kcomp : Class) (comp : ClassId) (ty : FieldType), s.vm.classes[g.2.1 t]? = some kA ∧ kA.kind = .array comp ty ∧ ty.isReference = true ∧ s.vm.classes[comp]? = some kcomp ∧ s.vm.assignable cellV.cls comp = true := by
    have base : ∀ {C0 : String}, (zTys g)[t]? = some (g.2.1 t, .object C0) → (∀ {cC : ClassId}, s.vm.findClass C0 = some cC → s.vm.assignable cellV.cls cC = true) → ∃ (kA kcomp : Class) (comp : ClassId) (ty : FieldType), s.vm.classes[g.2.1 t]? = some kA ∧ kA.kind = .array comp ty ∧ ty.isReference = true ∧ s.vm.classes[comp]? = some kcomp ∧ s.vm.assignable cellV.cls comp = true := by
      intro C0 ht has
      obtain ⟨kA, comp, k1, k2, k3, -⟩ := (hK.2 t _ ht).2
      obtain ⟨kc, hkc, -⟩ := Vm.findClass_spec k3
      exact ⟨kA, kc, comp, _, k1, k2, rfl, hkc, has k3⟩
    have self : ∀ {C0 : String} {T0 : u_T} {N0 : Nat}, vwCl[k]? = some (C0, T0, N0) → ∀ {cC : ClassId}, s.vm.findClass C0 = some cC → s.vm.assignable cellV.cls cC = true := by
      intro C0 T0 N0 hq cC hC
      have e1 : r' = (C0, T0, N0) := Option.some.inj (hr'.symm.trans hq)
      subst e1
      have e2 : cC = g.1.1 k := Option.some.inj (hC.symm.trans hcv.1)
      rw [e2, g2]
      exact va_assign hcv
    have cast : ∀ {C0 : String} {T0 : u_T} {N0 : Nat}, vwCl[k]? = some (C0, T0, N0) → va_Nw (.castable C0 "ButlerRemembers$Master") s → ∀ {cC : ClassId}, s.vm.findClass "ButlerRemembers$Master" = some cC → s.vm.assignable cellV.cls cC = true := by
      intro C0 T0 N0 hq hc cC hC
      have e1 : r' = (C0, T0, N0) := Option.some.inj (hr'.symm.trans hq)
      subst e1
      obtain ⟨c3, t3, w1, w2, w3⟩ := Cond.castable_spec hc
      have e2 : c3 = g.1.1 k := Option.some.inj (w1.symm.trans hcv.1)
      have e3 : cC = t3 := Option.some.inj (hC.symm.trans w2)
      rw [e3, g2, ← e2]
      exact w3
    rcases hk with ⟨rfl, rfl⟩ | ⟨rfl, rfl⟩ | ⟨rfl, rfl | rfl | rfl | rfl | rfl | rfl | rfl⟩
    · exact base (C0 := "ButlerRemembers$House") rfl (self rfl)
    · exact base (C0 := "ButlerRemembers$Tape") rfl (self rfl)
    · exact base (C0 := "ButlerRemembers$Master") rfl (cast (C0 := RX0) rfl (hs9 (RX0, RX7) (by decide)))
    · exact base (C0 := "ButlerRemembers$Master") rfl (cast (C0 := RX1) rfl (hs9 (RX1, RX7) (by decide)))
    · exact base (C0 := "ButlerRemembers$Master") rfl (cast (C0 := RX2) rfl (hs9 (RX2, RX7) (by decide)))
    · exact base (C0 := "ButlerRemembers$Master") rfl (cast (C0 := RX3) rfl (hs9 (RX3, RX7) (by decide)))
    · exact base (C0 := "ButlerRemembers$Master") rfl (cast (C0 := RX4) rfl (hs9 (RX4, RX7) (by decide)))
    · exact base (C0 := "ButlerRemembers$Master") rfl (self rfl)
    · exact base (C0 := "ButlerRemembers$Master") rfl (cast (C0 := RX9) rfl (hs9 (RX9, RX7) (by decide)))
  obtain ⟨kA, kcomp, comp, ty, y1, y2, y3, y4, y5⟩ := key
  refine W.aast hx hb hcell (fun q h => by cases h) (fun h => by cases h) y1 y2 y3 y4 ⟨h0, by show _ < (arrV _ _ _).slots.size; rw [arrV_size]; exact hlt⟩ g1 (fun q h => by rw [g3] at h; cases h) (by rw [g2]; exact hkC) y5 rfl rfl hd fun H1 e1 z1 o1 => ?_
  refine kk _ r h' E H1 _ ls (hR.set he ?_ z1 o1) (hS.put z1 o1 (hR.2.2 a _ he).2) hl
  show H1[a]? = some (vp_cell (g.2.1 t) _)
  rw [e1]
  rw [vp_cell_q, vp_cell_q, arrV_store]
  congr 2
  funext q
  by_cases hq : q = i.toNatClampNeg
  · subst hq
    simp [updV, va_up, va_rf]
  · simp [updV, va_up, hq]
/-- a branch of which the numbers are known -/
theorem z_icmpge_n (C : zC X g y cc nL lev mc ms rt) {x z : Int32} {o : Int} (d : zD cc pc (.if_icmp .ge o) 3 pc') (t : Nat) (ht : (pc : Int) + o = (t : Int)) (hn : ¬ z ≤ x) (k : ZZ X g nL u rv F h pc' lv st) : ZZ X g nL u rv F h pc lv (.int z :: .int x :: st) := by
  obtain ⟨p, l, e, R, s, m, args, below, meth, c⟩ := X
  obtain ⟨⟨hx, hb, hml, hown, hts⟩, hr, hlk, hnm, hS0, hRf, hRl, hRc, hRs, hzs⟩ := C
  obtain ⟨hd, rfl⟩ := d
  intro r h' E H locs ls hR hS hl
  exact lv_icmp_ge hx hb hd ht (fun q => absurd q hn) (fun _ => k r h' E H locs ls hR hS hl)
theorem z_icmpge_y (C : zC X g y cc nL lev mc ms rt) {x z : Int32} {o : Int} (d : zD cc pc (.if_icmp .ge o) 3 pc') (t : Nat) (ht : (pc : Int) + o = (t : Int)) (hn : z ≤ x) (k : ZZ X g nL u rv F h t lv st) : ZZ X g nL u rv F h pc lv (.int z :: .int x :: st) := by
  obtain ⟨p, l, e, R, s, m, args, below, meth, c⟩ := X
  obtain ⟨⟨hx, hb, hml, hown, hts⟩, hr, hlk, hnm, hS0, hRf, hRl, hRc, hRs, hzs⟩ := C
  obtain ⟨hd, rfl⟩ := d
  intro r h' E H locs ls hR hS hl
  exact lv_icmp_ge hx hb hd ht (fun _ => k r h' E H locs ls hR hS hl) (fun q => absurd hn q)
end
theorem zObI : Cond.instanceMethod Lib.objectInit ∈ tblG := tblG_at 97 (by decide +kernel) (by decide +kernel)
theorem zObC : Cond.code Lib.objectInit ⟨#[0xb1]⟩ 1 none ∈ tblG := tblG_at 98 (by decide +kernel) (by decide +kernel)
theorem zArI : Cond.arrayClass .int ∈ tblG := tblG_at 184 (by decide +kernel) (by decide +kernel)
theorem zArB : Cond.arrayClass .byte ∈ tblG := tblG_at 270 (by decide +kernel) (by decide +kernel)
theorem zArC : Cond.arrayClass .char ∈ tblG := tblG_at 1102 (by decide +kernel) (by decide +kernel)
theorem zArJ : Cond.arrayClass .long ∈ tblG := tblG_at 318 (by decide +kernel) (by decide +kernel)
theorem oX11_3 : Cond.methodLink RX11 3 Lib.objectInit ∈ tblG := tblG_at 96 (by decide +kernel) (by decide +kernel)
theorem oX6_3 : Cond.methodLink RX6 3 Lib.objectInit ∈ tblG := tblG_at 104 (by decide +kernel) (by decide +kernel)
theorem oX7_1 : Cond.methodLink RX7 1 Lib.objectInit ∈ tblG := tblG_at 191 (by decide +kernel) (by decide +kernel)
theorem oX5_5 : Cond.methodLink RX5 5 Lib.objectInit ∈ tblG := tblG_at 240 (by decide +kernel) (by decide +kernel)
theorem oX10_1 : Cond.methodLink RX10 1 Lib.objectInit ∈ tblG := tblG_at 277 (by decide +kernel) (by decide +kernel)
theorem oX8_3 : Cond.methodLink RX8 3 Lib.objectInit ∈ tblG := tblG_at 305 (by decide +kernel) (by decide +kernel)
theorem oX12_3 : Cond.methodLink RX12 3 Lib.objectInit ∈ tblG := tblG_at 1016 (by decide +kernel) (by decide +kernel)
theorem mX11_11 : zKI RX11 11 yX6_init cX6_init 1 := ⟨⟨"ButlerRemembers", List.mem_filter.mpr ⟨List.mem_of_getElem? (i := 101) (by decide +kernel), rfl⟩⟩, tblG_at 102 (by decide +kernel) (by decide +kernel), tblG_at 70 (by decide +kernel) (by decide +kernel), tblG_at 103 (by decide +kernel) (by decide +kernel), by decide, rfl, by decide, by decide, by decide +kernel⟩
theorem mX11_27 : zKI RX11 27 yX7_init cX7_init 1 := ⟨⟨"ButlerRemembers", List.mem_filter.mpr ⟨List.mem_of_getElem? (i := 188) (by decide +kernel), rfl⟩⟩, tblG_at 189 (by decide +kernel) (by decide +kernel), tblG_at 71 (by decide +kernel) (by decide +kernel), tblG_at 190 (by decide +kernel) (by decide +kernel), by decide, rfl, by decide, by decide, by decide +kernel⟩
theorem mX11_30 : zKI RX11 30 yX4_init cX4_init 1 := ⟨⟨"ButlerRemembers", List.mem_filter.mpr ⟨List.mem_of_getElem? (i := 195) (by decide +kernel), rfl⟩⟩, tblG_at 196 (by decide +kernel) (by decide +kernel), tblG_at 72 (by decide +kernel) (by decide +kernel), tblG_at 197 (by decide +kernel) (by decide +kernel), by decide, rfl, by decide, by decide, by decide +kernel⟩
theorem mX4_1 : zKI RX4 1 yX7_init cX7_init 1 := ⟨⟨"ButlerRemembers", List.mem_filter.mpr ⟨List.mem_of_getElem? (i := 198) (by decide +kernel), rfl⟩⟩, tblG_at 189 (by decide +kernel) (by decide +kernel), tblG_at 71 (by decide +kernel) (by decide +kernel), tblG_at 190 (by decide +kernel) (by decide +kernel), by decide, rfl, by decide, by decide, by decide +kernel⟩
theorem mX11_33 : zKI RX11 33 yX3_init cX3_init 1 := ⟨⟨"ButlerRemembers", List.mem_filter.mpr ⟨List.mem_of_getElem? (i := 202) (by decide +kernel), rfl⟩⟩, tblG_at 203 (by decide +kernel) (by decide +kernel), tblG_at 73 (by decide +kernel) (by decide +kernel), tblG_at 204 (by decide +kernel) (by decide +kernel), by decide, rfl, by decide, by decide, by decide +kernel⟩
theorem mX3_1 : zKI RX3 1 yX7_init cX7_init 1 := ⟨⟨"ButlerRemembers", List.mem_filter.mpr ⟨List.mem_of_getElem? (i := 205) (by decide +kernel), rfl⟩⟩, tblG_at 189 (by decide +kernel) (by decide +kernel), tblG_at 71 (by decide +kernel) (by decide +kernel), tblG_at 190 (by decide +kernel) (by decide +kernel), by decide, rfl, by decide, by decide, by decide +kernel⟩
theorem mX11_36 : zKI RX11 36 yX1_init cX1_init 1 := ⟨⟨"ButlerRemembers", List.mem_filter.mpr ⟨List.mem_of_getElem? (i := 209) (by decide +kernel), rfl⟩⟩, tblG_at 210 (by decide +kernel) (by decide +kernel), tblG_at 74 (by decide +kernel) (by decide +kernel), tblG_at 211 (by decide +kernel) (by decide +kernel), by decide, rfl, by decide, by decide, by decide +kernel⟩
theorem mX1_1 : zKI RX1 1 yX7_init cX7_init 1 := ⟨⟨"ButlerRemembers", List.mem_filter.mpr ⟨List.mem_of_getElem? (i := 212) (by decide +kernel), rfl⟩⟩, tblG_at 189 (by decide +kernel) (by decide +kernel), tblG_at 71 (by decide +kernel) (by decide +kernel), tblG_at 190 (by decide +kernel) (by decide +kernel), by decide, rfl, by decide, by decide, by decide +kernel⟩
theorem mX11_39 : zKI RX11 39 yX0_init cX0_init 1 := ⟨⟨"ButlerRemembers", List.mem_filter.mpr ⟨List.mem_of_getElem? (i := 216) (by decide +kernel), rfl⟩⟩, tblG_at 217 (by decide +kernel) (by decide +kernel), tblG_at 75 (by decide +kernel) (by decide +kernel), tblG_at 218 (by decide +kernel) (by decide +kernel), by decide, rfl, by decide, by decide, by decide +kernel⟩
theorem mX0_3 : zKI RX0 3 yX4_init cX4_init 1 := ⟨⟨"ButlerRemembers", List.mem_filter.mpr ⟨List.mem_of_getElem? (i := 219) (by decide +kernel), rfl⟩⟩, tblG_at 196 (by decide +kernel) (by decide +kernel), tblG_at 72 (by decide +kernel) (by decide +kernel), tblG_at 197 (by decide +kernel) (by decide +kernel), by decide, rfl, by decide, by decide, by decide +kernel⟩
theorem mX11_42 : zKI RX11 42 yX2_init cX2_init 1 := ⟨⟨"ButlerRemembers", List.mem_filter.mpr ⟨List.mem_of_getElem? (i := 223) (by decide +kernel), rfl⟩⟩, tblG_at 224 (by decide +kernel) (by decide +kernel), tblG_at 76 (by decide +kernel) (by decide +kernel), tblG_at 225 (by decide +kernel) (by decide +kernel), by decide, rfl, by decide, by decide, by decide +kernel⟩
theorem mX2_1 : zKI RX2 1 yX3_init cX3_init 1 := ⟨⟨"ButlerRemembers", List.mem_filter.mpr ⟨List.mem_of_getElem? (i := 226) (by decide +kernel), rfl⟩⟩, tblG_at 203 (by decide +kernel) (by decide +kernel), tblG_at 73 (by decide +kernel) (by decide +kernel), tblG_at 204 (by decide +kernel) (by decide +kernel), by decide, rfl, by decide, by decide, by decide +kernel⟩
theorem mX11_45 : zKI RX11 45 yX9_init cX9_init 1 := ⟨⟨"ButlerRemembers", List.mem_filter.mpr ⟨List.mem_of_getElem? (i := 230) (by decide +kernel), rfl⟩⟩, tblG_at 231 (by decide +kernel) (by decide +kernel), tblG_at 77 (by decide +kernel) (by decide +kernel), tblG_at 232 (by decide +kernel) (by decide +kernel), by decide, rfl, by decide, by decide, by decide +kernel⟩
theorem mX9_1 : zKI RX9 1 yX1_init cX1_init 1 := ⟨⟨"ButlerRemembers", List.mem_filter.mpr ⟨List.mem_of_getElem? (i := 233) (by decide +kernel), rfl⟩⟩, tblG_at 210 (by decide +kernel) (by decide +kernel), tblG_at 74 (by decide +kernel) (by decide +kernel), tblG_at 211 (by decide +kernel) (by decide +kernel), by decide, rfl, by decide, by decide, by decide +kernel⟩
theorem mX11_52 : zKI RX11 52 yX5_init cX5_init 1 := ⟨⟨"ButlerRemembers", List.mem_filter.mpr ⟨List.mem_of_getElem? (i := 237) (by decide +kernel), rfl⟩⟩, tblG_at 238 (by decide +kernel) (by decide +kernel), tblG_at 78 (by decide +kernel) (by decide +kernel), tblG_at 239 (by decide +kernel) (by decide +kernel), by decide, rfl, by decide, by decide, by decide +kernel⟩
theorem mX11_74 : zKI RX11 74 yX10_init cX10_init 1 := ⟨⟨"ButlerRemembers", List.mem_filter.mpr ⟨List.mem_of_getElem? (i := 274) (by decide +kernel), rfl⟩⟩, tblG_at 275 (by decide +kernel) (by decide +kernel), tblG_at 79 (by decide +kernel) (by decide +kernel), tblG_at 276 (by decide +kernel) (by decide +kernel), by decide, rfl, by decide, by decide, by decide +kernel⟩
theorem mX11_92 : zKI RX11 92 yX8_init cX8_init 1 := ⟨⟨"ButlerRemembers", List.mem_filter.mpr ⟨List.mem_of_getElem? (i := 302) (by decide +kernel), rfl⟩⟩, tblG_at 303 (by decide +kernel) (by decide +kernel), tblG_at 80 (by decide +kernel) (by decide +kernel), tblG_at 304 (by decide +kernel) (by decide +kernel), by decide, rfl, by decide, by decide, by decide +kernel⟩
theorem nL_7 : zKN RL 7 11 13 [.null, .null, .int 0, .null, .null, .null, .int 0, .null, .int 0, .null, .null, .null, .null] := ⟨RX11, TX11, tyX11, rfl, inG11, tyX11_ok, tblG_at 91 (by decide +kernel) (by decide +kernel), tblG_at 92 (by decide +kernel) (by decide +kernel), tblG_at 69 (by decide +kernel) (by decide +kernel), fun j hj => by rcases (show j = 0 ∨ j = 1 ∨ j = 2 ∨ j = 3 ∨ j = 4 ∨ j = 5 ∨ j = 6 ∨ j = 7 ∨ j = 8 ∨ j = 9 ∨ j = 10 ∨ j = 11 ∨ j = 12 by omega) with rfl | rfl | rfl | rfl | rfl | rfl | rfl | rfl | rfl | rfl | rfl | rfl | rfl <;> rfl⟩
theorem nX11_9 : zKN RX11 9 6 20 [.int 0, .null, .null, .null, .null, .int 0, .null, .null, .null, .int 0, .null, .int 0, .int 0, .int 0, .int 0, .null, .int 0, .null, .int 0, .null] := ⟨RX6, TX6, tyX6, rfl, inG6, tyX6_ok, tblG_at 99 (by decide +kernel) (by decide +kernel), tblG_at 100 (by decide +kernel) (by decide +kernel), tblG_at 70 (by decide +kernel) (by decide +kernel), fun j hj => by rcases (show j = 0 ∨ j = 1 ∨ j = 2 ∨ j = 3 ∨ j = 4 ∨ j = 5 ∨ j = 6 ∨ j = 7 ∨ j = 8 ∨ j = 9 ∨ j = 10 ∨ j = 11 ∨ j = 12 ∨ j = 13 ∨ j = 14 ∨ j = 15 ∨ j = 16 ∨ j = 17 ∨ j = 18 ∨ j = 19 by omega) with rfl | rfl | rfl | rfl | rfl | rfl | rfl | rfl | rfl | rfl | rfl | rfl | rfl | rfl | rfl | rfl | rfl | rfl | rfl | rfl <;> rfl⟩
theorem nX11_25 : zKN RX11 25 7 0 [] := ⟨RX7, TX7, tyX7, rfl, inG7, tyX7_ok, tblG_at 185 (by decide +kernel) (by decide +kernel), tblG_at 187 (by decide +kernel) (by decide +kernel), tblG_at 71 (by decide +kernel) (by decide +kernel), fun j hj => absurd hj (Nat.not_lt_zero j)⟩
theorem nX11_28 : zKN RX11 28 4 0 [] := ⟨RX4, TX4, tyX4, rfl, inG4, tyX4_ok, tblG_at 193 (by decide +kernel) (by decide +kernel), tblG_at 194 (by decide +kernel) (by decide +kernel), tblG_at 72 (by decide +kernel) (by decide +kernel), fun j hj => absurd hj (Nat.not_lt_zero j)⟩
theorem nX11_31 : zKN RX11 31 3 0 [] := ⟨RX3, TX3, tyX3, rfl, inG3, tyX3_ok, tblG_at 200 (by decide +kernel) (by decide +kernel), tblG_at 201 (by decide +kernel) (by decide +kernel), tblG_at 73 (by decide +kernel) (by decide +kernel), fun j hj => absurd hj (Nat.not_lt_zero j)⟩
theorem nX11_34 : zKN RX11 34 1 0 [] := ⟨RX1, TX1, tyX1, rfl, inG1, tyX1_ok, tblG_at 207 (by decide +kernel) (by decide +kernel), tblG_at 208 (by decide +kernel) (by decide +kernel), tblG_at 74 (by decide +kernel) (by decide +kernel), fun j hj => absurd hj (Nat.not_lt_zero j)⟩
theorem nX11_37 : zKN RX11 37 0 0 [] := ⟨RX0, TX0, tyX0, rfl, inG0, tyX0_ok, tblG_at 214 (by decide +kernel) (by decide +kernel), tblG_at 215 (by decide +kernel) (by decide +kernel), tblG_at 75 (by decide +kernel) (by decide +kernel), fun j hj => absurd hj (Nat.not_lt_zero j)⟩
theorem nX11_40 : zKN RX11 40 2 0 [] := ⟨RX2, TX2, tyX2, rfl, inG2, tyX2_ok, tblG_at 221 (by decide +kernel) (by decide +kernel), tblG_at 222 (by decide +kernel) (by decide +kernel), tblG_at 76 (by decide +kernel) (by decide +kernel), fun j hj => absurd hj (Nat.not_lt_zero j)⟩
theorem nX11_43 : zKN RX11 43 9 0 [] := ⟨RX9, TX9, tyX9, rfl, inG9, tyX9_ok, tblG_at 228 (by decide +kernel) (by decide +kernel), tblG_at 229 (by decide +kernel) (by decide +kernel), tblG_at 77 (by decide +kernel) (by decide +kernel), fun j hj => absurd hj (Nat.not_lt_zero j)⟩
theorem nX11_50 : zKN RX11 50 5 9 [.int 0, .null, .int 0, .null, .int 0, .null, .int 0, .int 0, .int 0] := ⟨RX5, TX5, tyX5, rfl, inG5, tyX5_ok, tblG_at 235 (by decide +kernel) (by decide +kernel), tblG_at 236 (by decide +kernel) (by decide +kernel), tblG_at 78 (by decide +kernel) (by decide +kernel), fun j hj => by rcases (show j = 0 ∨ j = 1 ∨ j = 2 ∨ j = 3 ∨ j = 4 ∨ j = 5 ∨ j = 6 ∨ j = 7 ∨ j = 8 by omega) with rfl | rfl | rfl | rfl | rfl | rfl | rfl | rfl | rfl <;> rfl⟩
theorem nX11_72 : zKN RX11 72 10 4 [.int 0, .int 0, .int 0, .null] := ⟨RX10, TX10, tyX10, rfl, inG10, tyX10_ok, tblG_at 272 (by decide +kernel) (by decide +kernel), tblG_at 273 (by decide +kernel) (by decide +kernel), tblG_at 79 (by decide +kernel) (by decide +kernel), fun j hj => by rcases (show j = 0 ∨ j = 1 ∨ j = 2 ∨ j = 3 by omega) with rfl | rfl | rfl | rfl <;> rfl⟩
theorem nX11_79 : zKN RX11 79 8 3 [.int 0, .int 0, .null] := ⟨RX8, TX8, tyX8, rfl, inG8, tyX8_ok, tblG_at 299 (by decide +kernel) (by decide +kernel), tblG_at 301 (by decide +kernel) (by decide +kernel), tblG_at 80 (by decide +kernel) (by decide +kernel), fun j hj => by rcases (show j = 0 ∨ j = 1 ∨ j = 2 by omega) with rfl | rfl | rfl <;> rfl⟩
theorem nL_10 : zKN RL 10 12 28 [.null, .null, .null, .int 0, .null, .int 0, .null, .null, .int 0, .null, .int 0, .int 0, .int 0, .int 0, .int 0, .int 0, .null, .null, .null, .null, .null, .null, .null, .int 0, .null, .null, .null, .null] := ⟨RX12, TX12, tyX12, rfl, inG12, tyX12_ok, tblG_at 1011 (by decide +kernel) (by decide +kernel), tblG_at 1012 (by decide +kernel) (by decide +kernel), tblG_at 81 (by decide +kernel) (by decide +kernel), fun j hj => by rcases (show j = 0 ∨ j = 1 ∨ j = 2 ∨ j = 3 ∨ j = 4 ∨ j = 5 ∨ j = 6 ∨ j = 7 ∨ j = 8 ∨ j = 9 ∨ j = 10 ∨ j = 11 ∨ j = 12 ∨ j = 13 ∨ j = 14 ∨ j = 15 ∨ j = 16 ∨ j = 17 ∨ j = 18 ∨ j = 19 ∨ j = 20 ∨ j = 21 ∨ j = 22 ∨ j = 23 ∨ j = 24 ∨ j = 25 ∨ j = 26 ∨ j = 27 by omega) with rfl | rfl | rfl | rfl | rfl | rfl | rfl | rfl | rfl | rfl | rfl | rfl | rfl | rfl | rfl | rfl | rfl | rfl | rfl | rfl | rfl | rfl | rfl | rfl | rfl | rfl | rfl | rfl <;> rfl⟩
