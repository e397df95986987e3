/-! the constructors: cells one behind another -/
def ex (H : AH) (m : List va_E) : AH := (H.1 + m.length, fun a => if a < H.1 then H.2 a else m[a - H.1]?)
theorem ex_at {H : AH} {m : List va_E} {k : Nat} : (ex H m).2 (H.1 + k) = m[k]? := by
  show (if H.1 + k < H.1 then H.2 (H.1 + k) else m[H.1 + k - H.1]?) = _
  rw [if_neg (by omega), Nat.add_sub_cancel_left]
theorem ex_set {H : AH} {m : List va_E} {k : Nat} {e : va_E} (hk : k < m.length) : ((ex H m).1, va_up (ex H m).2 (H.1 + k) (some e)) = ex H (m.set k e) := by
  refine Prod.ext (by show H.1 + m.length = H.1 + (m.set k e).length; rw [List.length_set]) (funext fun a => ?_)
  show (if a = H.1 + k then some e else if a < H.1 then H.2 a else m[a - H.1]?) = if a < H.1 then H.2 a else (m.set k e)[a - H.1]?
  rw [List.getElem?_set]
  by_cases h : a = H.1 + k
  · rw [if_pos h, if_neg (by omega), if_pos (by omega), if_pos (by omega)]
  · rw [if_neg h]
    by_cases h2 : a < H.1
    · rw [if_pos h2, if_pos h2]
    · rw [if_neg h2, if_neg h2, if_neg (by omega)]
theorem ex_app {H : AH} {m m' : List va_E} : ex (ex H m) m' = ex H (m ++ m') := by
  refine Prod.ext (by show H.1 + m.length + m'.length = H.1 + (m ++ m').length; rw [List.length_append]; omega) (funext fun a => ?_)
  show (if a < H.1 + m.length then (if a < H.1 then H.2 a else m[a - H.1]?) else m'[a - (H.1 + m.length)]?) = if a < H.1 then H.2 a else (m ++ m')[a - H.1]?
  by_cases h : a < H.1
  · rw [if_pos (by omega), if_pos h, if_pos h]
  · rw [if_neg h, if_neg h]
    by_cases h2 : a < H.1 + m.length
    · rw [if_pos h2, List.getElem?_append_left (by omega)]
    · rw [if_neg h2, List.getElem?_append_right (by omega), show a - (H.1 + m.length) = a - H.1 - m.length by omega]
theorem up_one {H : AH} {e : va_E} (hn : ∀ a, H.1 ≤ a → H.2 a = none) : (H.1 + 1, va_up H.2 H.1 (some e)) = ex H [e] := by
  refine Prod.ext rfl (funext fun a => ?_)
  show (if a = H.1 then some e else H.2 a) = if a < H.1 then H.2 a else [e][a - H.1]?
  by_cases h : a = H.1
  · rw [if_pos h, if_neg (by omega), h, Nat.sub_self]; rfl
  · rw [if_neg h]
    by_cases h2 : a < H.1
    · rw [if_pos h2]
    · rw [if_neg h2, hn a (by omega), List.getElem?_eq_none (by show 1 ≤ a - H.1; omega)]
theorem ex_no {H : AH} {m : List va_E} : ∀ a, (ex H m).1 ≤ a → (ex H m).2 a = none := by
  intro a h
  have h : H.1 + m.length ≤ a := h
  show (if a < H.1 then H.2 a else m[a - H.1]?) = none
  rw [if_neg (by omega), List.getElem?_eq_none (by omega)]
def grid (n k b : Nat) : List va_E := .inl (7, n, .inr (.inr (.inr (.inr (fun i => if i < n then some (b + 1 + i) else none))))) :: List.replicate n (.inl (0, k, .inl (fun _ => 0)))
section
variable {H : AH} {b n : Nat} {q : va_E} {t : List va_E}
theorem L_new (hb : H.1 = b) (hm : t.length + 1 = n) {e : va_E} {β : Type} {K : Nat → AH → β} : znew (ex H (q :: t)) e K = K (b + n) (ex H (q :: (t ++ [e]))) := by
  show K (H.1 + (q :: t).length) ((ex H (q :: t)).1 + 1, va_up (ex H (q :: t)).2 (ex H (q :: t)).1 (some e)) = _
  rw [up_one ex_no, ex_app, hb, ← hm]; rfl
theorem L_grid (hb : H.1 = b) (hm : t.length + 1 = n) {k l : Nat} {β : Type} {K : Nat → AH → β} : zgrid (ex H (q :: t)) k l K = K (b + n) (ex H (q :: (t ++ grid k l (b + n)))) := by
  have e : ((ex H (q :: t)).1 + 1 + k, fun a => if a = (ex H (q :: t)).1 then some (.inl (7, k, .inr (.inr (.inr (.inr (fun i => if i < k then some ((ex H (q :: t)).1 + 1 + i) else none)))))) else if (ex H (q :: t)).1 < a ∧ a < (ex H (q :: t)).1 + 1 + k then some (.inl (0, l, .inl (fun _ => 0))) else (ex H (q :: t)).2 a) = ex (ex H (q :: t)) (grid k l (ex H (q :: t)).1) := by
    have hn := ex_no (H := H) (m := q :: t)
    generalize ex H (q :: t) = G at hn
    refine Prod.ext (by show G.1 + 1 + k = G.1 + (grid k l G.1).length; unfold grid; rw [List.length_cons, List.length_replicate]; omega) (funext fun a => ?_)
    show (if a = G.1 then _ else _) = if a < G.1 then G.2 a else (grid k l G.1)[a - G.1]?
    by_cases h : a = G.1
    · rw [if_pos h, if_neg (by omega), h, Nat.sub_self]; rfl
    · rw [if_neg h]
      by_cases h2 : a < G.1
      · rw [if_pos h2, if_neg (by omega)]
      · rw [if_neg h2]
        obtain ⟨j, hj⟩ : ∃ j, a - G.1 = j + 1 := ⟨a - G.1 - 1, by omega⟩
        rw [hj]
        show _ = (List.replicate k _)[j]?
        rw [List.getElem?_replicate]
        by_cases h3 : a < G.1 + 1 + k
        · rw [if_pos ⟨by omega, h3⟩, if_pos (by omega)]
        · rw [if_neg (fun w => h3 w.2), if_neg (by omega)]; exact hn a (by omega)
  show K (ex H (q :: t)).1 _ = _
  rw [e, ex_app]
  show K (H.1 + (q :: t).length) (ex H (q :: t ++ grid k l (H.1 + (q :: t).length))) = _
  rw [hb, List.length_cons, hm]; rfl
theorem L_put (hb : H.1 = b) {ci k : Nat} {fs fs' : List Value} {v : Value} (hk : Nat.ble (k + 1) fs.length = true) (hs : fs.set k v = fs') {β : Type} {f : AH → Option β} : (zput (ex H (.inr (ci, fs) :: t)) b ci k v).bind f = f (ex H (.inr (ci, fs') :: t)) := by
  subst hs
  have hk := Nat.le_of_ble_eq_true hk
  have e0 := ex_at (H := H) (m := .inr (ci, fs) :: t) (k := 0)
  have e1 : zput (ex H (.inr (ci, fs) :: t)) b ci k v = some (ex H (.inr (ci, fs.set k v) :: t)) := by
    unfold zput
    rw [← hb, show (ex H (.inr (ci, fs) :: t)).2 H.1 = some (.inr (ci, fs)) from e0]
    show (if ci = ci ∧ k < fs.length then some ((ex H (.inr (ci, fs) :: t)).1, va_up (ex H (.inr (ci, fs) :: t)).2 H.1 (some (.inr (ci, fs.set k v)))) else none) = _
    rw [if_pos ⟨rfl, by omega⟩, show H.1 = H.1 + 0 from rfl, ex_set (k := 0) (by rw [List.length_cons]; omega)]
    rfl
  rw [e1]; rfl
theorem L_putZ (hb : H.1 = b) {ci k : Nat} {fs fs' : List Value} (hk : Nat.ble (k + 1) fs.length = true) (hs : fs.set k (.int 0) = fs') {β : Type} {f : AH → Option β} : (zputZ (ex H (.inr (ci, fs) :: t)) b ci k (0 : Int32)).bind f = f (ex H (.inr (ci, fs') :: t)) := by
  unfold zputZ
  rw [if_pos (Or.inl rfl)]
  exact L_put hb hk hs
theorem L_gR (hb : H.1 = b) {ci k v : Nat} {fs : List Value} (hk : fs[k]? = some (.ref v)) {β : Type} {f : Nat → Option β} : (zgR (ex H (.inr (ci, fs) :: t)) b ci k).bind f = f v := by
  have e0 := ex_at (H := H) (m := .inr (ci, fs) :: t) (k := 0)
  have e1 : zgR (ex H (.inr (ci, fs) :: t)) b ci k = some v := by
    unfold zgR
    rw [← hb, show (ex H (.inr (ci, fs) :: t)).2 H.1 = some (.inr (ci, fs)) from e0]
    show (if ci = ci then _ else _) = _
    rw [if_pos rfl, hk]
  rw [e1]; rfl
theorem L_gR1 (hb : H.1 = b) {ci k v : Nat} {fs : List Value} (hk : fs[k]? = some (.ref v)) : zgR (ex H (.inr (ci, fs) :: t)) b ci k = some v := by
  have e0 := ex_at (H := H) (m := .inr (ci, fs) :: t) (k := 0)
  unfold zgR
  rw [← hb, show (ex H (.inr (ci, fs) :: t)).2 H.1 = some (.inr (ci, fs)) from e0]
  show (if ci = ci then _ else _) = _
  rw [if_pos rfl, hk]
theorem L_gRl {a ci k v : Nat} (ha : a < H.1) (hg : zgR H a ci k = some v) {β : Type} {f : Nat → Option β} : (zgR (ex H t) a ci k).bind f = f v := by
  have e : zgR (ex H t) a ci k = zgR H a ci k := by
    unfold zgR
    rw [show (ex H t).2 a = H.2 a from if_pos ha]
  rw [e, hg]; rfl
theorem L_aast0 (hb : H.1 = b) {c l j k kd : Nat} {g : Nat → Option Nat} {i : Int32} {fs : List Value} (h2 : t[k]? = some (.inr (kd, fs))) (hi : i = nI j) (hj : Nat.ble (j + 1) l = true) (hl : Nat.ble l 1000 = true) (hc : (c = 4 ∧ kd = 5) ∨ (c = 6 ∧ kd = 8) ∨ (c = 5 ∧ (kd = 0 ∨ kd = 1 ∨ kd = 2 ∨ kd = 3 ∨ kd = 4 ∨ kd = 7 ∨ kd = 9))) {β : Type} {f : AH → Option β} : (zaast c (ex H (.inl (c, l, .inr (.inr (.inr (.inr g)))) :: t)) b i (b + (k + 1))).bind f = f (ex H (.inl (c, l, .inr (.inr (.inr (.inr (va_up g j (some (b + (k + 1)))))))) :: t)) := by
  have hj := Nat.le_of_ble_eq_true hj
  have hl := Nat.le_of_ble_eq_true hl
  have e0 := ex_at (H := H) (m := .inl (c, l, .inr (.inr (.inr (.inr g)))) :: t) (k := 0)
  have e2 := ex_at (H := H) (m := .inl (c, l, .inr (.inr (.inr (.inr g)))) :: t) (k := k + 1)
  rw [List.getElem?_cons_succ, h2] at e2
  have e1 : zaast c (ex H (.inl (c, l, .inr (.inr (.inr (.inr g)))) :: t)) b i (b + (k + 1)) = some (ex H (.inl (c, l, .inr (.inr (.inr (.inr (va_up g j (some (b + (k + 1)))))))) :: t)) := by
    unfold zaast
    rw [← hb, e2, show (ex H (.inl (c, l, .inr (.inr (.inr (.inr g)))) :: t)).2 H.1 = some (.inl (c, l, .inr (.inr (.inr (.inr g))))) from e0]
    show (if (c = c ∧ ¬ (i < 0 ∨ l ≤ i.toNatClampNeg)) ∧ ((c = 4 ∧ kd = 5) ∨ (c = 6 ∧ kd = 8) ∨ (c = 5 ∧ (kd = 0 ∨ kd = 1 ∨ kd = 2 ∨ kd = 3 ∨ kd = 4 ∨ kd = 7 ∨ kd = 9))) then some ((ex H (.inl (c, l, .inr (.inr (.inr (.inr g)))) :: t)).1, va_up (ex H (.inl (c, l, .inr (.inr (.inr (.inr g)))) :: t)).2 (H.1 + 0) (some (.inl (c, l, .inr (.inr (.inr (.inr (va_up g i.toNatClampNeg (some (H.1 + (k + 1))))))))))) else none) = _
    rw [hi, if_pos ⟨⟨rfl, nin (by omega) (by omega)⟩, hc⟩, nclamp (by omega), ex_set (k := 0) (by rw [List.length_cons]; omega)]
    rfl
  rw [e1]; rfl
theorem L_ast (hb : H.1 = b) (hm : t.length + 1 = n) {c l j : Nat} {g : Nat → Int32} {i v : Int32} (hi : i = nI j) (hj : Nat.ble (j + 1) l = true) (hl : Nat.ble l 1000 = true) {β : Type} {f : AH → Option β} : (zast c (ex H (q :: (t ++ [.inl (c, l, .inl g)]))) (b + n) i v).bind f = f (ex H (q :: (t ++ [.inl (c, l, .inl (upd g j v))]))) := by
  have hj := Nat.le_of_ble_eq_true hj
  have hl := Nat.le_of_ble_eq_true hl
  have e0 := ex_at (H := H) (m := q :: (t ++ [.inl (c, l, .inl g)])) (k := n)
  have e2 : (q :: (t ++ [(.inl (c, l, .inl g) : va_E)]))[n]? = some (.inl (c, l, .inl g)) := by
    rw [← hm, List.getElem?_cons_succ, List.getElem?_append_right (by omega), Nat.sub_self]; rfl
  have e3 : (q :: (t ++ [(.inl (c, l, .inl g) : va_E)])).set n (.inl (c, l, .inl (upd g j v))) = q :: (t ++ [.inl (c, l, .inl (upd g j v))]) := by
    rw [← hm, List.set_cons_succ, List.set_append_right _ _ (by omega), Nat.sub_self]; rfl
  have e1 : zast c (ex H (q :: (t ++ [.inl (c, l, .inl g)]))) (b + n) i v = some (ex H (q :: (t ++ [.inl (c, l, .inl (upd g j v))]))) := by
    unfold zast
    rw [← hb, e0, e2]
    show (if c = c ∧ ¬ (i < 0 ∨ l ≤ i.toNatClampNeg) then some ((ex H (q :: (t ++ [.inl (c, l, .inl g)]))).1, va_up (ex H (q :: (t ++ [.inl (c, l, .inl g)]))).2 (H.1 + n) (some (.inl (c, l, .inl (upd g i.toNatClampNeg v))))) else none) = _
    rw [hi, if_pos ⟨rfl, nin (by omega) (by omega)⟩, nclamp (by omega), ex_set (by rw [List.length_cons, List.length_append]; show n < t.length + 1 + 1; omega), e3]
  rw [e1]; rfl
theorem L_aast (hb : H.1 = b) {c l j k kd : Nat} {g : Nat → Option Nat} {i : Int32} {fs : List Value} (h1 : t[n]? = some (.inl (c, l, .inr (.inr (.inr (.inr g)))))) (h2 : t[k]? = some (.inr (kd, fs))) (hi : i = nI j) (hj : Nat.ble (j + 1) l = true) (hl : Nat.ble l 1000 = true) (hc : (c = 4 ∧ kd = 5) ∨ (c = 6 ∧ kd = 8) ∨ (c = 5 ∧ (kd = 0 ∨ kd = 1 ∨ kd = 2 ∨ kd = 3 ∨ kd = 4 ∨ kd = 7 ∨ kd = 9))) {t' : List va_E} (hs : t.set n (.inl (c, l, .inr (.inr (.inr (.inr (va_up g j (some (b + (k + 1)))))))) ) = t') {β : Type} {f : AH → Option β} : (zaast c (ex H (q :: t)) (b + (n + 1)) i (b + (k + 1))).bind f = f (ex H (q :: t')) := by
  subst hs
  have hj := Nat.le_of_ble_eq_true hj
  have hl := Nat.le_of_ble_eq_true hl
  have e0 := ex_at (H := H) (m := q :: t) (k := n + 1)
  have e2 := ex_at (H := H) (m := q :: t) (k := k + 1)
  rw [List.getElem?_cons_succ, h1] at e0
  rw [List.getElem?_cons_succ, h2] at e2
  have hn : n < t.length := by
    rcases Nat.lt_or_ge n t.length with h | h
    · exact h
    · rw [List.getElem?_eq_none h] at h1; cases h1
  have e1 : zaast c (ex H (q :: t)) (b + (n + 1)) i (b + (k + 1)) = some (ex H (q :: t.set n (.inl (c, l, .inr (.inr (.inr (.inr (va_up g j (some (b + (k + 1)))))))))) ) := by
    unfold zaast
    rw [← hb, e0, e2]
    show (if (c = c ∧ ¬ (i < 0 ∨ l ≤ i.toNatClampNeg)) ∧ ((c = 4 ∧ kd = 5) ∨ (c = 6 ∧ kd = 8) ∨ (c = 5 ∧ (kd = 0 ∨ kd = 1 ∨ kd = 2 ∨ kd = 3 ∨ kd = 4 ∨ kd = 7 ∨ kd = 9))) then some ((ex H (q :: t)).1, va_up (ex H (q :: t)).2 (H.1 + (n + 1)) (some (.inl (c, l, .inr (.inr (.inr (.inr (va_up g i.toNatClampNeg (some (H.1 + (k + 1))))))))))) else none) = _
    rw [hi, if_pos ⟨⟨rfl, nin (by omega) (by omega)⟩, hc⟩, nclamp (by omega), ex_set (by rw [List.length_cons]; omega)]
    rfl
  rw [e1]; rfl
theorem L_call {α : Type} {fI : AH → Nat → Option (α × AH)} {o1 : va_E} {bk : Nat → List va_E} {r : α} (hI : ∀ (H : AH) (b : Nat), H.1 = b → fI (ex H [o1]) b = some (r, ex H (bk b))) (hb : H.1 = b) (hm : t.length + 1 = n) : fI (ex H (q :: (t ++ [o1]))) (b + n) = some (r, ex H (q :: (t ++ bk (b + n)))) := by
  have := hI (ex H (q :: t)) (b + n) (by show H.1 + (t.length + 1) = b + n; rw [hb, hm])
  rw [ex_app, ex_app] at this
  exact this
end
def bk10 (b : Nat) : List va_E := [.inr (10, [.int 0, .int 0, .int 0, .ref (b + 1)]), .inl (0, 20, .inl (fun _ => 0))]
def bk8 (b : Nat) : List va_E := [.inr (8, [.int (-1), .int 0, .ref (b + 1)]), .inl (3, 60, .inr (.inl (fun _ => 0)))]
def bk5 (b : Nat) : List va_E := [.inr (5, [.int 6, .ref (b + 1), .int 0, .ref (b + 2), .int 0, .ref (b + 3), .int 0, .int 0, .int 0]), .inl (0, 100, .inl (fun _ => 0)), .inl (0, 11, .inl (fun _ => 0)), .inl (1, 0, .inl (fun _ => 0))]
def bk6 (b : Nat) : List va_E := [.inr (6, [.int 0, .ref (b + 1), .ref (b + 2), .ref (b + 3), .ref (b + 4), .int 0, .ref (b + 5), .ref (b + 6), .ref (b + 7), .int 0, .ref (b + 8), .int 0, .int 0, .int (-1), .int 0, .ref (b + 9), .int 0, .ref (b + 15), .int 0, .ref (b + 26)]), .inl (0, 6, .inl (fun _ => 0)), .inl (0, 6, .inl (fun _ => 0)), .inl (0, 6, .inl (fun _ => 0)), .inl (0, 24, .inl (fun _ => 0)), .inl (0, 8, .inl (fun _ => 0)), .inl (0, 8, .inl (fun _ => 0)), .inl (0, 8, .inl (fun _ => 0)), .inl (0, 5, .inl (fun _ => 0))] ++ (grid 5 4 (b + 9) ++ (grid 10 2 (b + 15) ++ grid 8 2 (b + 26)))
theorem bk10_n {b : Nat} : (bk10 b).length = 2 := rfl
theorem bk8_n {b : Nat} : (bk8 b).length = 2 := rfl
theorem bk5_n {b : Nat} : (bk5 b).length = 4 := rfl
theorem bk6_n {b : Nat} : (bk6 b).length = 35 := rfl
section
variable (N : Nat)
theorem ki7c {h : AH} {a : Nat} {β : Type} {G : Unit → AH → Option β} : zcall (fX7_init N h a) G = G () h := rfl
theorem ki4c {h : AH} {a : Nat} {β : Type} {G : Unit → AH → Option β} : zcall (fX4_init N h a) G = G () h := rfl
theorem ki3c {h : AH} {a : Nat} {β : Type} {G : Unit → AH → Option β} : zcall (fX3_init N h a) G = G () h := rfl
theorem ki1c {h : AH} {a : Nat} {β : Type} {G : Unit → AH → Option β} : zcall (fX1_init N h a) G = G () h := rfl
theorem ki0c {h : AH} {a : Nat} {β : Type} {G : Unit → AH → Option β} : zcall (fX0_init N h a) G = G () h := rfl
theorem ki2c {h : AH} {a : Nat} {β : Type} {G : Unit → AH → Option β} : zcall (fX2_init N h a) G = G () h := rfl
theorem ki9c {h : AH} {a : Nat} {β : Type} {G : Unit → AH → Option β} : zcall (fX9_init N h a) G = G () h := rfl
theorem ki10 (H : AH) (b : Nat) (hb : H.1 = b) : fX10_init N (ex H [(.inr (10, [.int 0, .int 0, .int 0, .null]) : va_E)]) b = some ((), ex H (bk10 b)) := by
  rw [fX10_init]
  rw [L_put hb (fs' := [.int 0, .int 0, .int 0, .null]) rfl rfl]
  rw [L_put hb (fs' := [.int 0, .int 0, .int 0, .null]) rfl rfl]
  rw [L_put hb (fs' := [.int 0, .int 0, .int 0, .null]) rfl rfl]
  rw [L_new hb (n := 1) rfl]
  rw [L_put hb (fs' := [.int 0, .int 0, .int 0, .ref (b + 1)]) rfl rfl]
  rfl
theorem ki8 (H : AH) (b : Nat) (hb : H.1 = b) : fX8_init N (ex H [(.inr (8, [.int 0, .int 0, .null]) : va_E)]) b = some ((), ex H (bk8 b)) := by
  rw [fX8_init]
  rw [L_put hb (fs' := [.int (-1), .int 0, .null]) rfl rfl]
  rw [L_put hb (fs' := [.int (-1), .int 0, .null]) rfl rfl]
  rw [L_new hb (n := 1) rfl]
  rw [L_put hb (fs' := [.int (-1), .int 0, .ref (b + 1)]) rfl rfl]
  rfl
theorem ki5 (H : AH) (b : Nat) (hb : H.1 = b) : fX5_init N (ex H [(.inr (5, [.int 0, .null, .int 0, .null, .int 0, .null, .int 0, .int 0, .int 0]) : va_E)]) b = some ((), ex H (bk5 b)) := by
  rw [fX5_init]
  rw [L_put hb (fs' := [.int 6, .null, .int 0, .null, .int 0, .null, .int 0, .int 0, .int 0]) rfl rfl]
  rw [L_new hb (n := 1) rfl]
  rw [L_put hb (fs' := [.int 6, .ref (b + 1), .int 0, .null, .int 0, .null, .int 0, .int 0, .int 0]) rfl rfl]
  rw [L_put hb (fs' := [.int 6, .ref (b + 1), .int 0, .null, .int 0, .null, .int 0, .int 0, .int 0]) rfl rfl]
  rw [L_new hb (n := 2) rfl]
  rw [L_put hb (fs' := [.int 6, .ref (b + 1), .int 0, .ref (b + 2), .int 0, .null, .int 0, .int 0, .int 0]) rfl rfl]
  rw [L_put hb (fs' := [.int 6, .ref (b + 1), .int 0, .ref (b + 2), .int 0, .null, .int 0, .int 0, .int 0]) rfl rfl]
  rw [L_new hb (n := 3) rfl]
  rw [L_put hb (fs' := [.int 6, .ref (b + 1), .int 0, .ref (b + 2), .int 0, .ref (b + 3), .int 0, .int 0, .int 0]) rfl rfl]
  rw [L_put hb (fs' := [.int 6, .ref (b + 1), .int 0, .ref (b + 2), .int 0, .ref (b + 3), .int 0, .int 0, .int 0]) rfl rfl]
  rw [L_put hb (fs' := [.int 6, .ref (b + 1), .int 0, .ref (b + 2), .int 0, .ref (b + 3), .int 0, .int 0, .int 0]) rfl rfl]
  rw [L_put hb (fs' := [.int 6, .ref (b + 1), .int 0, .ref (b + 2), .int 0, .ref (b + 3), .int 0, .int 0, .int 0]) rfl rfl]
  rfl
theorem ki6 (H : AH) (b : Nat) (hb : H.1 = b) : fX6_init N (ex H [(.inr (6, [.int 0, .null, .null, .null, .null, .int 0, .null, .null, .null, .int 0, .null, .int 0, .int 0, .int 0, .int 0, .null, .int 0, .null, .int 0, .null]) : va_E)]) b = some ((), ex H (bk6 b)) := by
  rw [fX6_init]
  rw [L_put hb (fs' := [.int 0, .null, .null, .null, .null, .int 0, .null, .null, .null, .int 0, .null, .int 0, .int 0, .int 0, .int 0, .null, .int 0, .null, .int 0, .null]) rfl rfl]
  rw [L_new hb (n := 1) rfl]
  rw [L_put hb (fs' := [.int 0, .ref (b + 1), .null, .null, .null, .int 0, .null, .null, .null, .int 0, .null, .int 0, .int 0, .int 0, .int 0, .null, .int 0, .null, .int 0, .null]) rfl rfl]
  rw [L_new hb (n := 2) rfl]
  rw [L_put hb (fs' := [.int 0, .ref (b + 1), .ref (b + 2), .null, .null, .int 0, .null, .null, .null, .int 0, .null, .int 0, .int 0, .int 0, .int 0, .null, .int 0, .null, .int 0, .null]) rfl rfl]
  rw [L_new hb (n := 3) rfl]
  rw [L_put hb (fs' := [.int 0, .ref (b + 1), .ref (b + 2), .ref (b + 3), .null, .int 0, .null, .null, .null, .int 0, .null, .int 0, .int 0, .int 0, .int 0, .null, .int 0, .null, .int 0, .null]) rfl rfl]
  rw [L_new hb (n := 4) rfl]
  rw [L_put hb (fs' := [.int 0, .ref (b + 1), .ref (b + 2), .ref (b + 3), .ref (b + 4), .int 0, .null, .null, .null, .int 0, .null, .int 0, .int 0, .int 0, .int 0, .null, .int 0, .null, .int 0, .null]) rfl rfl]
  rw [L_put hb (fs' := [.int 0, .ref (b + 1), .ref (b + 2), .ref (b + 3), .ref (b + 4), .int 0, .null, .null, .null, .int 0, .null, .int 0, .int 0, .int 0, .int 0, .null, .int 0, .null, .int 0, .null]) rfl rfl]
  rw [L_new hb (n := 5) rfl]
  rw [L_put hb (fs' := [.int 0, .ref (b + 1), .ref (b + 2), .ref (b + 3), .ref (b + 4), .int 0, .ref (b + 5), .null, .null, .int 0, .null, .int 0, .int 0, .int 0, .int 0, .null, .int 0, .null, .int 0, .null]) rfl rfl]
  rw [L_new hb (n := 6) rfl]
  rw [L_put hb (fs' := [.int 0, .ref (b + 1), .ref (b + 2), .ref (b + 3), .ref (b + 4), .int 0, .ref (b + 5), .ref (b + 6), .null, .int 0, .null, .int 0, .int 0, .int 0, .int 0, .null, .int 0, .null, .int 0, .null]) rfl rfl]
  rw [L_new hb (n := 7) rfl]
  rw [L_put hb (fs' := [.int 0, .ref (b + 1), .ref (b + 2), .ref (b + 3), .ref (b + 4), .int 0, .ref (b + 5), .ref (b + 6), .ref (b + 7), .int 0, .null, .int 0, .int 0, .int 0, .int 0, .null, .int 0, .null, .int 0, .null]) rfl rfl]
  rw [L_put hb (fs' := [.int 0, .ref (b + 1), .ref (b + 2), .ref (b + 3), .ref (b + 4), .int 0, .ref (b + 5), .ref (b + 6), .ref (b + 7), .int 0, .null, .int 0, .int 0, .int 0, .int 0, .null, .int 0, .null, .int 0, .null]) rfl rfl]
  rw [L_new hb (n := 8) rfl]
  rw [L_put hb (fs' := [.int 0, .ref (b + 1), .ref (b + 2), .ref (b + 3), .ref (b + 4), .int 0, .ref (b + 5), .ref (b + 6), .ref (b + 7), .int 0, .ref (b + 8), .int 0, .int 0, .int 0, .int 0, .null, .int 0, .null, .int 0, .null]) rfl rfl]
  rw [L_put hb (fs' := [.int 0, .ref (b + 1), .ref (b + 2), .ref (b + 3), .ref (b + 4), .int 0, .ref (b + 5), .ref (b + 6), .ref (b + 7), .int 0, .ref (b + 8), .int 0, .int 0, .int 0, .int 0, .null, .int 0, .null, .int 0, .null]) rfl rfl]
  rw [L_put hb (fs' := [.int 0, .ref (b + 1), .ref (b + 2), .ref (b + 3), .ref (b + 4), .int 0, .ref (b + 5), .ref (b + 6), .ref (b + 7), .int 0, .ref (b + 8), .int 0, .int 0, .int 0, .int 0, .null, .int 0, .null, .int 0, .null]) rfl rfl]
  rw [L_put hb (fs' := [.int 0, .ref (b + 1), .ref (b + 2), .ref (b + 3), .ref (b + 4), .int 0, .ref (b + 5), .ref (b + 6), .ref (b + 7), .int 0, .ref (b + 8), .int 0, .int 0, .int (-1), .int 0, .null, .int 0, .null, .int 0, .null]) rfl rfl]
  rw [L_put hb (fs' := [.int 0, .ref (b + 1), .ref (b + 2), .ref (b + 3), .ref (b + 4), .int 0, .ref (b + 5), .ref (b + 6), .ref (b + 7), .int 0, .ref (b + 8), .int 0, .int 0, .int (-1), .int 0, .null, .int 0, .null, .int 0, .null]) rfl rfl]
  rw [L_grid hb (n := 9) rfl]
  rw [L_put hb (fs' := [.int 0, .ref (b + 1), .ref (b + 2), .ref (b + 3), .ref (b + 4), .int 0, .ref (b + 5), .ref (b + 6), .ref (b + 7), .int 0, .ref (b + 8), .int 0, .int 0, .int (-1), .int 0, .ref (b + 9), .int 0, .null, .int 0, .null]) rfl rfl]
  rw [L_put hb (fs' := [.int 0, .ref (b + 1), .ref (b + 2), .ref (b + 3), .ref (b + 4), .int 0, .ref (b + 5), .ref (b + 6), .ref (b + 7), .int 0, .ref (b + 8), .int 0, .int 0, .int (-1), .int 0, .ref (b + 9), .int 0, .null, .int 0, .null]) rfl rfl]
  rw [L_grid hb (n := 15) rfl]
  rw [L_put hb (fs' := [.int 0, .ref (b + 1), .ref (b + 2), .ref (b + 3), .ref (b + 4), .int 0, .ref (b + 5), .ref (b + 6), .ref (b + 7), .int 0, .ref (b + 8), .int 0, .int 0, .int (-1), .int 0, .ref (b + 9), .int 0, .ref (b + 15), .int 0, .null]) rfl rfl]
  rw [L_put hb (fs' := [.int 0, .ref (b + 1), .ref (b + 2), .ref (b + 3), .ref (b + 4), .int 0, .ref (b + 5), .ref (b + 6), .ref (b + 7), .int 0, .ref (b + 8), .int 0, .int 0, .int (-1), .int 0, .ref (b + 9), .int 0, .ref (b + 15), .int 0, .null]) rfl rfl]
  rw [L_grid hb (n := 26) rfl]
  rw [L_put hb (fs' := [.int 0, .ref (b + 1), .ref (b + 2), .ref (b + 3), .ref (b + 4), .int 0, .ref (b + 5), .ref (b + 6), .ref (b + 7), .int 0, .ref (b + 8), .int 0, .int 0, .int (-1), .int 0, .ref (b + 9), .int 0, .ref (b + 15), .int 0, .ref (b + 26)]) rfl rfl]
  rfl
end
