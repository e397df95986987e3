/-! The cells of the two objects as one flat memory: ints by (cell, place), longs likewise, and for each House the cell that its bytes are. -/
abbrev PM : Type := (Nat → Nat → Int32) × (Nat → Nat → Int64) × (Nat → Nat)
/-- what a cell is: an array of numbers (tag, length); an object (kind, its fields: a number, or the cell that it names); an array of cells -/
abbrev zSh : Type := (Nat × Nat) ⊕ ((Nat × List (Option Nat)) ⊕ (Nat × List Nat))
def shH (b k : Nat) : Option zSh := match k - b with
  | 0 => some (.inr (.inl (6, [none, some (b + 1), some (b + 2), some (b + 3), some (b + 4), none, some (b + 5), some (b + 6), some (b + 7), none, some (b + 8), none, none, none, none, some (b + 9), none, some (b + 15), none, some (b + 26)])))
  | 1 => some (.inl (0, 6))
  | 2 => some (.inl (0, 6))
  | 3 => some (.inl (0, 6))
  | 4 => some (.inl (0, 24))
  | 5 => some (.inl (0, 8))
  | 6 => some (.inl (0, 8))
  | 7 => some (.inl (0, 8))
  | 8 => some (.inl (0, 5))
  | 9 => some (.inr (.inr (7, [b + 10, b + 11, b + 12, b + 13, b + 14])))
  | 15 => some (.inr (.inr (7, [b + 16, b + 17, b + 18, b + 19, b + 20, b + 21, b + 22, b + 23, b + 24, b + 25])))
  | 26 => some (.inr (.inr (7, [b + 27, b + 28, b + 29, b + 30, b + 31, b + 32, b + 33, b + 34])))
  | n => if n < 15 then some (.inl (0, 4)) else some (.inl (0, 2))
def shO (b y k : Nat) : Option zSh := match k - b with
  | 0 => some (.inr (.inl (5, [none, some (b + 1), none, some (b + 2), none, some y, none, none, none])))
  | 1 => some (.inl (0, 100))
  | 2 => some (.inl (0, 11))
  | _ => some (.inl (1, 0))
def shT (k : Nat) : Option zSh := if k % 2 = 0 then some (.inr (.inl (8, [none, none, some (k + 1)]))) else some (.inl (3, 60))
def shM (k : Nat) : Option zSh := match k with
  | 126 => some (.inr (.inl (12, [some 127, some 128, some 129, none, some 130, none, some 131, some 132, none, some 133, none, none, none, none, none, none, some 134, some 135, some 136, some 137, some 138, some 139, some 140, none, some 141, some 142, some 143, some 144])))
  | 127 => some (.inl (0, 140))
  | 128 => some (.inl (0, 140))
  | 129 => some (.inl (0, 140))
  | 130 => some (.inl (0, 100))
  | 131 => some (.inl (0, 600))
  | 132 => some (.inl (0, 6))
  | 133 => some (.inl (0, 100))
  | 134 => some (.inl (0, 6))
  | 135 => some (.inl (2, 6))
  | 136 => some (.inl (2, 3))
  | 137 => some (.inl (2, 15))
  | 138 => some (.inl (0, 7))
  | 139 => some (.inl (0, 21))
  | 140 => some (.inl (0, 20))
  | 141 => some (.inl (0, 6))
  | 142 => some (.inl (0, 6))
  | 143 => some (.inl (3, 360))
  | 144 => some (.inl (3, 60))
  | _ => none
def shp (B : Nat → Nat) (k : Nat) : Option zSh :=
  if k < 1 then some (.inr (.inl (11, [some 1, some 36, none, some 71, some 79, some 83, none, some 84, none, some 85, some 87, some 88, some 89])))
  else if k < 36 then shH 1 k
  else if k < 71 then shH 36 k
  else if k < 72 then some (.inr (.inr (5, [72, 73, 74, 75, 76, 77, 78])))
  else if k < 79 then some (.inr (.inl ([7, 4, 3, 1, 0, 2, 9].getD (k - 72) 0, [])))
  else if k < 83 then shO 79 (B 79) k
  else if k < 84 then some (.inr (.inr (4, [90, 94, 98, 102, 106, 110])))
  else if k < 85 then some (.inl (1, 100))
  else if k < 86 then some (.inr (.inl (10, [none, none, none, some 86])))
  else if k < 87 then some (.inl (0, 20))
  else if k < 88 then some (.inr (.inr (6, [114, 116, 118, 120, 122, 124])))
  else if k < 89 then some (.inl (0, 8))
  else if k < 90 then some (.inl (0, 6))
  else if k < 114 then shO (90 + 4 * ((k - 90) / 4)) (B (90 + 4 * ((k - 90) / 4))) k
  else if k < 126 then shT k
  else shM k
def mkF (z : Nat) (M : PM) (k : Nat) (j : Nat) (o : Option Nat) : Value := match o with
  | none => .int (M.1 k j)
  | some r => .ref (z + r)
def mk (z : Nat) (M : PM) (k : Nat) (s : zSh) : va_E := match s with
  | .inl (t, n) => if t = 3 then .inl (t, n, .inr (.inl (M.2.1 k))) else .inl (t, n, .inl (M.1 k))
  | .inr (.inl (ci, fs)) => .inr (ci, fs.mapIdx (mkF z M k))
  | .inr (.inr (t, os)) => .inl (t, os.length, .inr (.inr (.inr (.inr (fun i => (os[i]?).map (fun r => z + r))))))
def enc (z : Nat) (M : PM) : AH := (z + 145, fun a => if z ≤ a then (shp M.2.2 (a - z)).map (mk z M (a - z)) else none)
def setI (M : PM) (k j : Nat) (v : Int32) : PM := (fun a b => if a = k ∧ b = j then v else M.1 a b, M.2)
def setJ (M : PM) (k j : Nat) (v : Int64) : PM := (M.1, fun a b => if a = k ∧ b = j then v else M.2.1 a b, M.2.2)
def setB (M : PM) (k v : Nat) : PM := (M.1, M.2.1, fun a => if a = k then v else M.2.2 a)
theorem enc_at (z : Nat) (M : PM) (k : Nat) : (enc z M).2 (z + k) = (shp M.2.2 k).map (mk z M k) := by
  show (if z ≤ z + k then (shp M.2.2 (z + k - z)).map (mk z M (z + k - z)) else none) = _
  rw [if_pos (Nat.le_add_right z k), Nat.add_sub_cancel_left]
theorem mk_other {z : Nat} {M M' : PM} {k : Nat} (h1 : M'.1 k = M.1 k) (h2 : M'.2.1 k = M.2.1 k) (s : zSh) : mk z M' k s = mk z M k s := by
  have hf : mkF z M' k = mkF z M k := by
    funext j o
    cases o with
    | none => show Value.int (M'.1 k j) = Value.int (M.1 k j); rw [h1]
    | some r => rfl
  obtain ⟨t, n⟩ | ⟨ci, fs⟩ | ⟨t, os⟩ := s
  · simp only [mk, h1, h2]
  · simp only [mk, hf]
  · rfl
/-- a cell is stored: the memory in which it is so -/
theorem enc_up {z : Nat} {M M' : PM} {k : Nat} {s : zSh} (hs : shp M.2.2 k = some s) (hB : M'.2.2 = M.2.2) (h1 : ∀ a, a ≠ k → M'.1 a = M.1 a) (h2 : ∀ a, a ≠ k → M'.2.1 a = M.2.1 a) : ((enc z M).1, va_up (enc z M).2 (z + k) (some (mk z M' k s))) = enc z M' := by
  refine Prod.ext rfl (funext fun a => ?_)
  by_cases ha : a = z + k
  · subst ha
    rw [enc_at, hB, hs]
    simp [va_up]
  · show va_up (enc z M).2 (z + k) _ a = _
    rw [show va_up (enc z M).2 (z + k) (some (mk z M' k s)) a = (enc z M).2 a by simp [va_up, ha]]
    by_cases hz : z ≤ a
    · have e : a = z + (a - z) := by omega
      have hk : a - z ≠ k := by omega
      rw [e, enc_at, enc_at, hB]
      cases shp M.2.2 (a - z) with
      | none => rfl
      | some q => show some _ = some _; rw [mk_other (h1 _ hk) (h2 _ hk)]
    · show (if z ≤ a then _ else none) = (if z ≤ a then _ else none)
      rw [if_neg hz, if_neg hz]
theorem setI_row {M : PM} {k j : Nat} {v : Int32} {a : Nat} (h : a ≠ k) : (setI M k j v).1 a = M.1 a := by
  funext b
  show (if a = k ∧ b = j then v else M.1 a b) = _
  rw [if_neg (fun q => h q.1)]
theorem setI_self {M : PM} {k j : Nat} {v : Int32} : (setI M k j v).1 k = upd (M.1 k) j v := by
  funext b
  show (if k = k ∧ b = j then v else M.1 k b) = if b = j then v else M.1 k b
  simp
theorem setJ_row {M : PM} {k j : Nat} {v : Int64} {a : Nat} (h : a ≠ k) : (setJ M k j v).2.1 a = M.2.1 a := by
  funext b
  show (if a = k ∧ b = j then v else M.2.1 a b) = _
  rw [if_neg (fun q => h q.1)]
theorem setJ_self {M : PM} {k j : Nat} {v : Int64} : (setJ M k j v).2.1 k = vp_updL (M.2.1 k) j v := by
  funext b
  show (if k = k ∧ b = j then v else M.2.1 k b) = if b = j then v else M.2.1 k b
  simp
theorem e_obj {z : Nat} {M : PM} {k ci : Nat} {fs : List (Option Nat)} (hs : shp M.2.2 k = some (.inr (.inl (ci, fs)))) : (enc z M).2 (z + k) = some (.inr (ci, fs.mapIdx (mkF z M k))) := by
  rw [enc_at, hs]; rfl
theorem e_gI {z : Nat} {M : PM} {k ci j : Nat} {fs : List (Option Nat)} (hs : shp M.2.2 k = some (.inr (.inl (ci, fs)))) (hj : fs[j]? = some none) : zgI (enc z M) (z + k) ci j = some (M.1 k j) := by
  unfold zgI
  rw [e_obj hs]
  simp [List.getElem?_mapIdx, hj, mkF]
theorem e_gR {z : Nat} {M : PM} {k ci j r : Nat} {fs : List (Option Nat)} (hs : shp M.2.2 k = some (.inr (.inl (ci, fs)))) (hj : fs[j]? = some (some r)) : zgR (enc z M) (z + k) ci j = some (z + r) := by
  unfold zgR
  rw [e_obj hs]
  simp [List.getElem?_mapIdx, hj, mkF]
theorem e_pI {z : Nat} {M : PM} {k ci j : Nat} {v : Int32} {fs : List (Option Nat)} (hs : shp M.2.2 k = some (.inr (.inl (ci, fs)))) (hj : fs[j]? = some none) : zput (enc z M) (z + k) ci j (.int v) = some (enc z (setI M k j v)) := by
  have hl : j < fs.length := (List.getElem?_eq_some_iff.mp hj).1
  unfold zput
  rw [e_obj hs]
  simp only [List.length_mapIdx, hl, and_self, if_true]
  rw [← enc_up (M' := setI M k j v) hs rfl (fun a h => setI_row h) (fun a h => rfl)]
  congr 4
  show Sum.inr _ = Sum.inr _
  congr 2
  apply List.ext_getElem?
  intro q
  rw [List.getElem?_set]
  by_cases hq : j = q
  · subst hq
    rw [if_pos rfl, List.length_mapIdx, if_pos hl, List.getElem?_mapIdx, hj]
    simp [mkF, setI]
  · rw [if_neg hq, List.getElem?_mapIdx, List.getElem?_mapIdx]
    cases hf : fs[q]? with
    | none => rfl
    | some o =>
      cases o with
      | none => simp [mkF, setI, Ne.symm hq]
      | some r => rfl
theorem e_pZ {z : Nat} {M : PM} {k ci j : Nat} {v : Int32} {fs : List (Option Nat)} (hs : shp M.2.2 k = some (.inr (.inl (ci, fs)))) (hj : fs[j]? = some none) (hv : v = 0 ∨ v = 1) : zputZ (enc z M) (z + k) ci j v = some (enc z (setI M k j v)) := by
  unfold zputZ
  rw [if_pos hv, e_pI hs hj]
theorem e_ald {z : Nat} {M : PM} {k t n : Nat} {i : Int32} (hs : shp M.2.2 k = some (.inl (t, n))) (ht : t ≠ 3) (hi : ¬ (i < 0 ∨ n ≤ i.toNatClampNeg)) : zald t (enc z M) (z + k) i = some (M.1 k i.toNatClampNeg) := by
  unfold zald
  rw [enc_at, hs]
  simp only [Option.map_some, mk, if_neg ht]
  rw [if_pos ⟨trivial, hi⟩]
theorem e_ast {z : Nat} {M : PM} {k t n : Nat} {i v : Int32} (hs : shp M.2.2 k = some (.inl (t, n))) (ht : t ≠ 3) (hi : ¬ (i < 0 ∨ n ≤ i.toNatClampNeg)) : zast t (enc z M) (z + k) i v = some (enc z (setI M k i.toNatClampNeg v)) := by
  unfold zast
  rw [enc_at, hs]
  simp only [Option.map_some, mk, if_neg ht]
  rw [if_pos ⟨trivial, hi⟩, ← enc_up (M' := setI M k i.toNatClampNeg v) hs rfl (fun a h => setI_row h) (fun a h => rfl)]
  simp only [mk, if_neg ht, setI_self]
theorem e_lald {z : Nat} {M : PM} {k n : Nat} {i : Int32} (hs : shp M.2.2 k = some (.inl (3, n))) (hi : ¬ (i < 0 ∨ n ≤ i.toNatClampNeg)) : zlald (enc z M) (z + k) i = some (M.2.1 k i.toNatClampNeg) := by
  unfold zlald
  rw [enc_at, hs]
  simp only [Option.map_some, mk, if_true]
  rw [if_pos ⟨trivial, hi⟩]
theorem e_last {z : Nat} {M : PM} {k n : Nat} {i : Int32} {v : Int64} (hs : shp M.2.2 k = some (.inl (3, n))) (hi : ¬ (i < 0 ∨ n ≤ i.toNatClampNeg)) : zlast (enc z M) (z + k) i v = some (enc z (setJ M k i.toNatClampNeg v)) := by
  unfold zlast
  rw [enc_at, hs]
  simp only [Option.map_some, mk, if_true]
  rw [if_pos ⟨trivial, hi⟩, ← enc_up (M' := setJ M k i.toNatClampNeg v) hs rfl (fun a h => rfl) (fun a h => setJ_row h)]
  simp only [mk, if_true, setJ_self]
theorem e_aald {z : Nat} {M : PM} {k t r : Nat} {i : Int32} {os : List Nat} (hs : shp M.2.2 k = some (.inr (.inr (t, os)))) (hi : ¬ i < 0) (hr : os[i.toNatClampNeg]? = some r) : zaald t (enc z M) (z + k) i = some (z + r) := by
  have hl : i.toNatClampNeg < os.length := (List.getElem?_eq_some_iff.mp hr).1
  unfold zaald
  rw [enc_at, hs]
  simp only [Option.map_some, mk]
  rw [if_pos ⟨trivial, fun q => q.elim hi (fun q => absurd hl (Nat.not_lt.mpr q))⟩, hr]
  rfl
theorem e_lenA {z : Nat} {M : PM} {k t n : Nat} (hs : shp M.2.2 k = some (.inl (t, n))) (ht : t < 8) : zlen (enc z M) (z + k) = some (Int32.ofNat n) := by
  unfold zlen
  rw [enc_at, hs]
  by_cases h3 : t = 3
  · subst h3; simp [mk]
  · simp [mk, h3, ht]
theorem e_lenR {z : Nat} {M : PM} {k t : Nat} {os : List Nat} (hs : shp M.2.2 k = some (.inr (.inr (t, os)))) (ht : t < 8) : zlen (enc z M) (z + k) = some (Int32.ofNat os.length) := by
  unfold zlen
  rw [enc_at, hs]
  simp [mk, ht]
theorem e_is {z : Nat} {M : PM} {k ci : Nat} {fs : List (Option Nat)} (hs : shp M.2.2 k = some (.inr (.inl (ci, fs)))) : zis (enc z M) (z + k) ci = some () := by
  unfold zis
  rw [e_obj hs]
  simp
theorem e_kind {z : Nat} {M : PM} {k ci : Nat} {fs : List (Option Nat)} (hs : shp M.2.2 k = some (.inr (.inl (ci, fs)))) : zkind (enc z M) (z + k) = some ci := by
  unfold zkind
  rw [e_obj hs]
def cpyI (M : PM) (a b sp dp n : Nat) : PM := (fun k j => if k = b then va_cpy (M.1 a) (M.1 b) sp dp n j else M.1 k j, M.2)
def cpyJ (M : PM) (a b sp dp n : Nat) : PM := (M.1, fun k j => if k = b then va_cpy (M.2.1 a) (M.2.1 b) sp dp n j else M.2.1 k j, M.2.2)
theorem e_copyI {z : Nat} {M : PM} {a b n0 n1 : Nat} {sp dp n : Int32} (ha : shp M.2.2 a = some (.inl (0, n0))) (hb : shp M.2.2 b = some (.inl (0, n1))) (hk : ¬ sp < 0 ∧ ¬ dp < 0 ∧ ¬ n < 0 ∧ sp.toNatClampNeg + n.toNatClampNeg ≤ n0 ∧ dp.toNatClampNeg + n.toNatClampNeg ≤ n1) : zcopyI (enc z M) (z + a) sp (z + b) dp n = some (enc z (cpyI M a b sp.toNatClampNeg dp.toNatClampNeg n.toNatClampNeg)) := by
  unfold zcopyI
  rw [enc_at, enc_at, ha, hb]
  simp only [Option.map_some, mk]
  rw [if_neg (by decide : ¬ (0 : Nat) = 3), if_neg (by decide : ¬ (0 : Nat) = 3)]
  dsimp only
  rw [if_pos ⟨⟨rfl, rfl⟩, hk⟩, ← enc_up (M' := cpyI M a b sp.toNatClampNeg dp.toNatClampNeg n.toNatClampNeg) hb rfl (fun c h => by funext j; simp [cpyI, h]) (fun c h => rfl)]
  simp [mk, cpyI]
theorem e_copyL {z : Nat} {M : PM} {a b n0 n1 : Nat} {sp dp n : Int32} (ha : shp M.2.2 a = some (.inl (3, n0))) (hb : shp M.2.2 b = some (.inl (3, n1))) (hk : ¬ sp < 0 ∧ ¬ dp < 0 ∧ ¬ n < 0 ∧ sp.toNatClampNeg + n.toNatClampNeg ≤ n0 ∧ dp.toNatClampNeg + n.toNatClampNeg ≤ n1) : zcopyL (enc z M) (z + a) sp (z + b) dp n = some (enc z (cpyJ M a b sp.toNatClampNeg dp.toNatClampNeg n.toNatClampNeg)) := by
  unfold zcopyL
  rw [enc_at, enc_at, ha, hb]
  simp only [Option.map_some, mk]
  simp only [if_true]
  rw [if_pos ⟨⟨trivial, trivial⟩, hk⟩, ← enc_up (M' := cpyJ M a b sp.toNatClampNeg dp.toNatClampNeg n.toNatClampNeg) hb rfl (fun c h => rfl) (fun c h => by funext j; simp [cpyJ, h])]
  simp [mk, cpyJ]
