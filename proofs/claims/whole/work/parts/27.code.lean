/-! Steps of a house as a machine over (height, stack, sums) -/
def tvI (c x : Nat) (v : Int32) : Bool := if c = 0 then decide (v < nI x) else if c = 1 then decide (v = nI x) else decide (nI x < v)
abbrev XS : Type := Nat × (Nat → Nat) × (Nat → Int32)
abbrev EV : Type := Nat × Nat × Nat × Nat
def nmf (e : EV) (f : Nat) : Nat → Int32 := fun j => if j = 0 then nI e.1 else if j = 1 then nI e.2.1 else if j = 2 then nI e.2.2.1 else if j = 3 then nI f else if j = 4 then nI (e.2.2.2 % 10) else nI (e.2.2.2 % 7)
def xval (e : EV) (l : Nat) : Int32 := if l = 0 then nI e.1 else if l = 1 then nI e.2.1 else if l = 2 then nI e.2.2.1 else if l = 3 then nI (e.2.2.2 % 7) else if l = 4 then nI (e.2.2.2 % 10) else nI (e.2.2.2 % 7)
def updN (f : Nat → Nat) (k x : Nat) : Nat → Nat := fun j => if j = k then x else f j
def xpush (t : XS) (x : Nat) : XS := if t.1 < 11 then (t.1 + 1, updN t.2.1 t.1 x, t.2.2) else t
def xtop (t : XS) : Nat := if t.1 = 0 then 0 else t.2.1 (t.1 - 1)
def xpop (t : XS) : XS := (t.1 - 1, t.2)
def xw (t : XS) (x : Nat) (w : Int32) : XS := (t.1, t.2.1, fun f => if f < 8 ∧ x.testBit f = true then t.2.2 f + w else t.2.2 f)
def xstep (e : EV) (t : XS) (c : Nat) : XS :=
  if c / 256 < 18 then xpush t (if c / 256 / 3 = 3 then mkN (fun f => tvI (c / 256 % 3) (c % 256) (nI f)) 8 else if tvI (c / 256 % 3) (c % 256) (xval e (c / 256 / 3)) = true then 255 else 0)
  else if c / 256 = 22 then xw (xpop t) (xtop t) (nI (c % 256))
  else if c / 256 = 23 then xw (xpop t) (xtop t) (-nI (c % 256))
  else if c / 256 = 19 then xpush (xpop (xpop t)) (xtop t &&& xtop (xpop t))
  else if c / 256 = 20 then xpush (xpop (xpop t)) (xtop t ||| xtop (xpop t))
  else if c / 256 = 21 then xpush (xpop t) (dif 255 (xtop t))
  else xpush t (c % 256)
/-- the steps put the facts for which v holds -/
def Cod (c : List Nat) (v : VF) (h : Nat) : Prop := ∀ (e : EV) (t : XS), t.1 + h ≤ 11 → ∃ st', c.foldl (xstep e) t = (t.1 + 1, st', t.2.2) ∧ st' t.1 = mkN (fun f => v (nmf e f)) 8 ∧ ∀ j, j < t.1 → st' j = t.2.1 j
theorem xpush_ok {t : XS} {x : Nat} (h : t.1 < 11) : xpush t x = (t.1 + 1, updN t.2.1 t.1 x, t.2.2) := by unfold xpush; rw [if_pos h]
theorem Cod_one {c : Nat} {v : VF} (hx : ∀ (e : EV) (t : XS), xstep e t c = xpush t (mkN (fun f => v (nmf e f)) 8)) : Cod [c] v 1 := by
  intro e t ht
  refine ⟨updN t.2.1 t.1 (mkN (fun f => v (nmf e f)) 8), ?_, ?_, ?_⟩
  · show xstep e t c = _
    rw [hx, xpush_ok (by omega)]
  · simp [updN]
  · intro j hj
    have : j ≠ t.1 := by omega
    simp [updN, this]
theorem Cod_not {c : List Nat} {v : VF} {h : Nat} (hc : Cod c v h) (hh : 1 ≤ h) : Cod (c ++ [21 * 256 + 0]) (vNot v) h := by
  intro e t ht
  obtain ⟨st, h1, h2, h3⟩ := hc e t ht
  rw [List.foldl_append, h1]
  show ∃ st', xstep e (t.1 + 1, st, t.2.2) (21 * 256 + 0) = _ ∧ _
  have e1 : xstep e (t.1 + 1, st, t.2.2) (21 * 256 + 0) = xpush (xpop (t.1 + 1, st, t.2.2)) (dif 255 (xtop (t.1 + 1, st, t.2.2))) := rfl
  have e2 : xtop (t.1 + 1, st, t.2.2) = st t.1 := by unfold xtop; rw [if_neg (by omega)]; rfl
  have e3 : xpop (t.1 + 1, st, t.2.2) = (t.1, st, t.2.2) := rfl
  rw [e1, e2, e3, xpush_ok (t := (t.1, st, t.2.2)) (by show t.1 < 11; omega)]
  refine ⟨_, rfl, ?_, ?_⟩
  · show updN st t.1 _ t.1 = _
    simp only [updN, if_true, h2]
    apply Nat.eq_of_testBit_eq
    intro i
    rw [dif_bit, mkN_bit, mkN_bit, show (255 : Nat).testBit i = decide (i < 8) from Nat.testBit_two_pow_sub_one 8 i]
    unfold vNot
    cases decide (i < 8) <;> cases v (nmf e i) <;> rfl
  · intro j hj
    show updN st t.1 _ j = _
    have : j ≠ t.1 := by omega
    simp only [updN, if_neg this]
    exact h3 j hj
theorem Cod_bin {c d : List Nat} {v w u : VF} {h h' o : Nat} {op : Nat → Nat → Nat} (hc : Cod c v h) (hd : Cod d w h') (hh : h ≤ h' + 1) (h1 : 1 ≤ h') (ho : ∀ (e : EV) (t : XS), xstep e t o = xpush (xpop (xpop t)) (op (xtop t) (xtop (xpop t)))) (hop : ∀ e, op (mkN (fun f => w (nmf e f)) 8) (mkN (fun f => v (nmf e f)) 8) = mkN (fun f => u (nmf e f)) 8) : Cod (c ++ d ++ [o]) u (h' + 1) := by
  intro e t ht
  obtain ⟨st, a1, a2, a3⟩ := hc e t (by omega)
  rw [List.foldl_append, List.foldl_append, a1]
  obtain ⟨st2, b1, b2, b3⟩ := hd e (t.1 + 1, st, t.2.2) (by show t.1 + 1 + h' ≤ 11; omega)
  rw [b1]
  show ∃ st', xstep e (t.1 + 1 + 1, st2, t.2.2) o = _ ∧ _
  have e2 : xtop (t.1 + 1 + 1, st2, t.2.2) = st2 (t.1 + 1) := by unfold xtop; rw [if_neg (by omega)]; rfl
  have e3 : xpop (t.1 + 1 + 1, st2, t.2.2) = (t.1 + 1, st2, t.2.2) := rfl
  have e4 : xtop (t.1 + 1, st2, t.2.2) = st2 t.1 := by unfold xtop; rw [if_neg (by omega)]; rfl
  have e5 : xpop (t.1 + 1, st2, t.2.2) = (t.1, st2, t.2.2) := rfl
  rw [ho, e3, e5, e2, e4, xpush_ok (by show t.1 < 11; omega)]
  refine ⟨_, rfl, ?_, ?_⟩
  · show updN st2 t.1 _ t.1 = _
    simp only [updN, if_true]
    rw [show st2 (t.1 + 1) = mkN (fun f => w (nmf e f)) 8 from b2, show st2 t.1 = st t.1 from b3 t.1 (by show t.1 < t.1 + 1; omega), show st t.1 = mkN (fun f => v (nmf e f)) 8 from a2]
    exact hop e
  · intro j hj
    show updN st2 t.1 _ j = _
    have : j ≠ t.1 := by omega
    simp only [updN, if_neg this]
    rw [b3 j (by show j < t.1 + 1; omega)]
    exact a3 j hj
theorem Cod_and {c d : List Nat} {v w : VF} {h h' : Nat} (hc : Cod c v h) (hd : Cod d w h') (hh : h ≤ h' + 1) (h1 : 1 ≤ h') : Cod (c ++ d ++ [19 * 256 + 0]) (vAnd v w) (h' + 1) := by
  refine Cod_bin (op := fun a b => a &&& b) hc hd hh h1 (fun e t => rfl) (fun e => ?_)
  apply Nat.eq_of_testBit_eq
  intro i
  show ((mkN _ 8) &&& (mkN _ 8)).testBit i = _
  rw [Nat.testBit_and, mkN_bit, mkN_bit, mkN_bit]
  unfold vAnd
  cases decide (i < 8) <;> cases v (nmf e i) <;> cases w (nmf e i) <;> rfl
theorem Cod_or {c d : List Nat} {v w : VF} {h h' : Nat} (hc : Cod c v h) (hd : Cod d w h') (hh : h ≤ h' + 1) (h1 : 1 ≤ h') : Cod (c ++ d ++ [20 * 256 + 0]) (vOr v w) (h' + 1) := by
  refine Cod_bin (op := fun a b => a ||| b) hc hd hh h1 (fun e t => rfl) (fun e => ?_)
  apply Nat.eq_of_testBit_eq
  intro i
  show ((mkN _ 8) ||| (mkN _ 8)).testBit i = _
  rw [Nat.testBit_or, mkN_bit, mkN_bit, mkN_bit]
  unfold vOr
  cases decide (i < 8) <;> cases v (nmf e i) <;> cases w (nmf e i) <;> rfl
theorem Cod_up {c : List Nat} {v : VF} {h h' : Nat} (hc : Cod c v h) (hh : h ≤ h') : Cod c v h' := fun e t ht => hc e t (by omega)
theorem mkN_const (b : Bool) : mkN (fun _ => b) 8 = if b = true then 255 else 0 := by cases b <;> rfl
/-- a test that is not of the fact -/
theorem Cod_test {l c x : Nat} (hl : l < 6) (h3 : l ≠ 3) (hc : c < 3) (hx : x < 256) : Cod [(l * 3 + c) * 256 + x] (tv l c x) 1 := by
  apply Cod_one
  intro e t
  have q1 : ((l * 3 + c) * 256 + x) / 256 = l * 3 + c := by omega
  have q2 : ((l * 3 + c) * 256 + x) % 256 = x := by omega
  have q3 : (l * 3 + c) % 3 = c := by omega
  have q4 : (l * 3 + c) / 3 = l := by omega
  unfold xstep
  rw [q1, q2, q3, q4, if_pos (show l * 3 + c < 18 by omega), if_neg h3]
  have e1 : ∀ f, tv l c x (nmf e f) = tvI c x (xval e l) := by
    intro f
    show tvI c x (nmf e f l) = _
    congr 1
    unfold nmf xval
    rcases (show l = 0 ∨ l = 1 ∨ l = 2 ∨ l = 4 ∨ l = 5 by omega) with rfl | rfl | rfl | rfl | rfl <;> rfl
  rw [show (fun f => tv l c x (nmf e f)) = fun _ => tvI c x (xval e l) from funext e1, mkN_const]
/-- a test of the fact, as it is read -/
theorem Cod_fact {c x : Nat} (hc : c < 3) (hx : x < 256) : Cod [(3 * 3 + c) * 256 + x] (tv 3 c x) 1 := by
  apply Cod_one
  intro e t
  have q1 : ((3 * 3 + c) * 256 + x) / 256 = 3 * 3 + c := by omega
  have q2 : ((3 * 3 + c) * 256 + x) % 256 = x := by omega
  have q3 : (3 * 3 + c) % 3 = c := by omega
  have q4 : (3 * 3 + c) / 3 = 3 := by omega
  unfold xstep
  rw [q1, q2, q3, q4, if_pos (show 3 * 3 + c < 18 by omega), if_pos rfl]
  rfl
/-- a step once it is settled -/
def stl (c : Nat) : Nat := if c / 256 / 3 = 3 then 4608 + mkN (fun f => tvI (c / 256 % 3) (c % 256) (nI f)) 8 else c
def NF (L : List Nat) : Prop := ∀ x, x ∈ L → ¬ x / 256 / 3 = 3
theorem stl_lt {c : Nat} (h : c < 8192) : stl c < 8192 := by
  unfold stl
  have hb := mkN_lt (fun f => tvI (c / 256 % 3) (c % 256) (nI f)) 8
  split <;> omega
theorem stl_nf (c : Nat) : ¬ stl c / 256 / 3 = 3 := by
  unfold stl
  have hb := mkN_lt (fun f => tvI (c / 256 % 3) (c % 256) (nI f)) 8
  split <;> omega
theorem NF_stl (L : List Nat) : NF (L.map stl) := by
  intro x hx
  obtain ⟨c, _, hc⟩ := List.mem_map.mp hx
  rw [← hc]
  exact stl_nf c
theorem NF_nil : NF [] := fun x hx => (List.not_mem_nil hx).elim
theorem xstep_stl (e : EV) (t : XS) (c : Nat) : xstep e t (stl c) = xstep e t c := by
  by_cases h : c / 256 / 3 = 3
  · have hb := mkN_lt (fun f => tvI (c / 256 % 3) (c % 256) (nI f)) 8
    have es : stl c = 4608 + mkN (fun f => tvI (c / 256 % 3) (c % 256) (nI f)) 8 := by unfold stl; rw [if_pos h]
    rw [es]
    have e2 : xstep e t c = xpush t (mkN (fun f => tvI (c / 256 % 3) (c % 256) (nI f)) 8) := by
      unfold xstep
      rw [if_pos (show c / 256 < 18 by omega), if_pos h]
    rw [e2]
    generalize mkN (fun f => tvI (c / 256 % 3) (c % 256) (nI f)) 8 = m at hb
    have q1 : (4608 + m) / 256 = 18 := by omega
    have q2 : (4608 + m) % 256 = m := by omega
    unfold xstep
    rw [q1, q2, if_neg (by omega), if_neg (by omega), if_neg (by omega), if_neg (by omega), if_neg (by omega), if_neg (by omega)]
  · have es : stl c = c := by unfold stl; rw [if_neg h]
    rw [es]
theorem fold_stl (e : EV) (L : List Nat) : ∀ t : XS, (L.map stl).foldl (xstep e) t = L.foldl (xstep e) t := by
  induction L with
  | nil => intro t; rfl
  | cons c L ih =>
    intro t
    show (L.map stl).foldl (xstep e) (xstep e t (stl c)) = L.foldl (xstep e) (xstep e t c)
    rw [xstep_stl, ih]
/-- all clauses read so far, and the sums that they give -/
def HC (L : List Nat) (S : SF) : Prop := ∀ (e : EV) (st : Nat → Nat), ∃ st' sm, L.foldl (xstep e) (0, st, fun _ => nI 1) = (0, st', sm) ∧ ∀ f, f < 8 → sm f = S (nmf e f)
theorem HC_stl {L : List Nat} {S : SF} (h : HC L S) : HC (L.map stl) S := fun e st => by rw [fold_stl]; exact h e st
theorem HC_nil : HC [] (fun _ => nI 1) := fun e st => ⟨st, fun _ => nI 1, rfl, fun f _ => rfl⟩
theorem HC_cl {L c : List Nat} {S : SF} {v : VF} {kd x : Nat} (hL : HC L S) (hc : Cod c v 11) (hk : kd = 0 ∨ kd = 1) (hx : x < 256) : HC (L ++ (c ++ [(22 + kd) * 256 + x])) (apS (kd, x, v) S) := by
  intro e st
  obtain ⟨st1, sm, a1, a2⟩ := hL e st
  obtain ⟨st2, b1, b2, b3⟩ := hc e (0, st1, sm) (by show 0 + 11 ≤ 11; omega)
  rw [List.foldl_append, List.foldl_append, a1, b1]
  have q1 : ((22 + kd) * 256 + x) / 256 = 22 + kd := by omega
  have q2 : ((22 + kd) * 256 + x) % 256 = x := by omega
  refine ⟨st2, fun f => if f < 8 ∧ (st2 0).testBit f = true then sm f + (if kd = 0 then nI x else -nI x) else sm f, ?_, ?_⟩
  · show xstep e (0 + 1, st2, sm) ((22 + kd) * 256 + x) = _
    unfold xstep
    rw [q1, q2, if_neg (by omega)]
    rcases hk with rfl | rfl
    · rw [if_pos rfl]; rfl
    · rw [if_neg (by omega), if_pos rfl]; rfl
  · intro f hf
    have b2' : st2 0 = mkN (fun f => v (nmf e f)) 8 := b2
    show (if f < 8 ∧ (st2 0).testBit f = true then _ else _) = _
    rw [b2', mkN_bit, a2 f hf]
    have ea : apS (kd, x, v) S = fun nm => S nm + (if v nm = true then (if kd = 0 then nI x else -nI x) else nI 0) := by
      unfold apS
      rw [if_neg (by show ¬ kd = 2; omega)]
    rw [ea]
    by_cases hv : v (nmf e f) = true
    · simp [hf, hv]
    · simp only [hf, hv]
      show S (nmf e f) = S (nmf e f) + 0
      simp
