/-! What a house's text means: a reader that gives, at each place, whether it fits, where it stands, and the value as a function of the six names. -/
abbrev VF : Type := (Nat → Int32) → Bool
abbrev PR : Type := Bool × Nat × VF
def cu (tx : Nat → Nat) (n a : Nat) : Nat := if a < n then tx a else 999
def dig (tx : Nat → Nat) (n a : Nat) : Bool := decide (a < n ∧ 48 ≤ tx a ∧ tx a ≤ 57)
def pNum (tx : Nat → Nat) (n a : Nat) : Bool × Nat × Nat :=
  if dig tx n a = true then (if dig tx n (a + 1) = true then (true, a + 2, 10 * (tx a - 48) + (tx (a + 1) - 48)) else (true, a + 1, tx a - 48)) else (false, a, 0)
def li (c : Nat) : Nat := if c = 112 then 0 else if c = 107 then 1 else if c = 118 then 2 else if c = 102 then 3 else if c = 100 then 4 else if c = 115 then 5 else 9
def ci (c : Nat) : Nat := if c = 60 then 0 else if c = 61 then 1 else if c = 62 then 2 else 9
def tv (l c x : Nat) : VF := fun nm => if c = 0 then decide (nm l < nI x) else if c = 1 then decide (nm l = nI x) else decide (nI x < nm l)
def vAnd (v w : VF) : VF := fun nm => v nm && w nm
def vOr (v w : VF) : VF := fun nm => v nm || w nm
def vNot (v : VF) : VF := fun nm => !v nm
def pTest (tx : Nat → Nat) (n a : Nat) : PR :=
  if li (cu tx n a) = 9 then (false, a, fun _ => false)
  else if ci (cu tx n (a + 1)) = 9 then (false, a + 1, fun _ => false)
  else ((pNum tx n (a + 2)).1, (pNum tx n (a + 2)).2.1, tv (li (cu tx n a)) (ci (cu tx n (a + 1))) (pNum tx n (a + 2)).2.2)
def pLoop (tx : Nat → Nat) (n sep : Nat) (op : VF → VF → VF) (item : Nat → PR) : Nat → PR → PR
  | 0, r => r
  | m + 1, r => if r.1 = true ∧ cu tx n r.2.1 = sep then pLoop tx n sep op item m ((item (r.2.1 + 1)).1, (item (r.2.1 + 1)).2.1, op r.2.2 (item (r.2.1 + 1)).2.2) else r
def pBoth (tx : Nat → Nat) (n : Nat) (item : Nat → PR) (a : Nat) : PR := pLoop tx n 38 vAnd item 100 (item a)
def pAny (tx : Nat → Nat) (n : Nat) (item : Nat → PR) (a : Nat) : PR := pLoop tx n 124 vOr (pBoth tx n item) 100 (pBoth tx n item a)
def pCls (tx : Nat → Nat) (n : Nat) (r : PR) : PR := if r.1 = true ∧ cu tx n r.2.1 = 41 then (true, r.2.1 + 1, r.2.2) else (false, r.2.1, r.2.2)
def pFac (tx : Nat → Nat) (n : Nat) : Nat → Nat → PR
  | 0, a => pTest tx n a
  | k + 1, a => if cu tx n a = 33 then ((pFac tx n k (a + 1)).1, (pFac tx n k (a + 1)).2.1, vNot (pFac tx n k (a + 1)).2.2)
    else if cu tx n a = 40 then pCls tx n (pAny tx n (pFac tx n k) (a + 1))
    else pTest tx n a
def pWord (tx : Nat → Nat) (n : Nat) : List Nat → Nat → Bool × Nat
  | [], a => (true, a)
  | c :: cs, a => if cu tx n a = c then pWord tx n cs (a + 1) else (false, a)
abbrev CL : Type := Nat × Nat × VF
def pExp (tx : Nat → Nat) (n kd x a : Nat) : Bool × Nat × CL := ((pAny tx n (pFac tx n 4) a).1, (pAny tx n (pFac tx n 4) a).2.1, kd, x, (pAny tx n (pFac tx n 4) a).2.2)
def pCl2 (tx : Nat → Nat) (n kd x : Nat) (w : Bool × Nat) : Bool × Nat × CL := if w.1 = true then pExp tx n kd x w.2 else (false, w.2, kd, x, fun _ => false)
def pCl1 (tx : Nat → Nat) (n kd : Nat) (q : Bool × Nat × Nat) : Bool × Nat × CL := if q.1 = true then pCl2 tx n kd q.2.2 (pWord tx n [32] q.2.1) else (false, q.2.1, kd, 0, fun _ => false)
def pCl0 (tx : Nat → Nat) (n kd : Nat) (w : Bool × Nat) : Bool × Nat × CL := if w.1 = true then pCl1 tx n kd (pNum tx n w.2) else (false, w.2, kd, 0, fun _ => false)
def pHr1 (q : Bool × Nat × Nat) : Bool × Nat × CL := (q.1, q.2.1, 2, q.2.2, fun _ => false)
def pHr0 (tx : Nat → Nat) (n : Nat) (w : Bool × Nat) : Bool × Nat × CL := if w.1 = true then pHr1 (pNum tx n w.2) else (false, w.2, 2, 0, fun _ => false)
def pCl (tx : Nat → Nat) (n a : Nat) : Bool × Nat × CL :=
  if cu tx n a = 104 then pHr0 tx n (pWord tx n [104, 111, 117, 114, 115, 32] a)
  else if cu tx n a = 107 then pCl0 tx n 0 (pWord tx n [107, 101, 101, 112, 32] a)
  else pCl0 tx n 1 (pWord tx n [108, 111, 115, 101, 32] a)
abbrev SF : Type := (Nat → Int32) → Int32
def apH (c : CL) (h : Nat) : Nat := if c.1 = 2 then c.2.1 else h
def apS (c : CL) (S : SF) : SF := if c.1 = 2 then S else fun nm => S nm + (if c.2.2 nm = true then (if c.1 = 0 then nI c.2.1 else -nI c.2.1) else nI 0)
abbrev AR : Type := Bool × Nat × Nat × SF
def pRest (tx : Nat → Nat) (n : Nat) : Nat → AR → AR
  | 0, r => r
  | m + 1, r => if r.1 = true ∧ cu tx n r.2.1 = 59 then pRest tx n m ((pCl tx n (r.2.1 + 1)).1, (pCl tx n (r.2.1 + 1)).2.1, apH (pCl tx n (r.2.1 + 1)).2.2 r.2.2.1, apS (pCl tx n (r.2.1 + 1)).2.2 r.2.2.2) else r
def pAll (tx : Nat → Nat) (n : Nat) : AR := pRest tx n 9 ((pCl tx n 0).1, (pCl tx n 0).2.1, apH (pCl tx n 0).2.2 6, apS (pCl tx n 0).2.2 (fun _ => nI 1))
/-- where it stands behind a reading from a on -/
def Pg (n a : Nat) (ok : Bool) (b : Nat) : Prop := a ≤ n → a ≤ b ∧ b ≤ n ∧ (ok = true → a < b)
theorem cu_lt {tx : Nat → Nat} {n a c : Nat} (h : cu tx n a = c) (hc : c < 999) : a < n := by
  unfold cu at h
  split at h
  · assumption
  · omega
theorem li_lt {c : Nat} (h : ¬ li c = 9) : c < 999 := by
  by_cases q : c < 999
  · exact q
  · exfalso; apply h; unfold li
    rw [if_neg (by omega), if_neg (by omega), if_neg (by omega), if_neg (by omega), if_neg (by omega), if_neg (by omega)]
theorem ci_lt {c : Nat} (h : ¬ ci c = 9) : c < 999 := by
  by_cases q : c < 999
  · exact q
  · exfalso; apply h; unfold ci
    rw [if_neg (by omega), if_neg (by omega), if_neg (by omega)]
theorem dig_lt {tx : Nat → Nat} {n a : Nat} (h : dig tx n a = true) : a < n := (of_decide_eq_true h).1
theorem pNum_pg (tx : Nat → Nat) (n a : Nat) : Pg n a (pNum tx n a).1 (pNum tx n a).2.1 := by
  intro ha
  unfold pNum
  by_cases h : dig tx n a = true
  · have h1 := dig_lt h
    rw [if_pos h]
    by_cases h2 : dig tx n (a + 1) = true
    · have h3 := dig_lt h2
      rw [if_pos h2]; exact ⟨by show a ≤ a + 2; omega, by show a + 2 ≤ n; omega, fun _ => by show a < a + 2; omega⟩
    · rw [if_neg h2]; exact ⟨by show a ≤ a + 1; omega, by show a + 1 ≤ n; omega, fun _ => by show a < a + 1; omega⟩
  · rw [if_neg h]; exact ⟨Nat.le_refl _, ha, fun q => by cases q⟩
theorem pTest_pg (tx : Nat → Nat) (n a : Nat) : Pg n a (pTest tx n a).1 (pTest tx n a).2.1 := by
  intro ha
  unfold pTest
  by_cases h : li (cu tx n a) = 9
  · rw [if_pos h]; exact ⟨Nat.le_refl _, ha, fun q => by cases q⟩
  · have h1 := cu_lt (tx := tx) (n := n) (a := a) rfl (li_lt h)
    rw [if_neg h]
    by_cases h2 : ci (cu tx n (a + 1)) = 9
    · rw [if_pos h2]; exact ⟨by show a ≤ a + 1; omega, by show a + 1 ≤ n; omega, fun q => by cases q⟩
    · have h3 := cu_lt (tx := tx) (n := n) (a := a + 1) rfl (ci_lt h2)
      rw [if_neg h2]
      have h4 := pNum_pg tx n (a + 2) (by omega)
      exact ⟨by show a ≤ (pNum tx n (a + 2)).2.1; omega, h4.2.1, fun _ => by show a < (pNum tx n (a + 2)).2.1; omega⟩
theorem pLoop_pg {tx : Nat → Nat} {n sep : Nat} (op : VF → VF → VF) {item : Nat → PR} (hs : sep < 999) (hi : ∀ a, Pg n a (item a).1 (item a).2.1) (a : Nat) : ∀ m (r : PR), Pg n a r.1 r.2.1 → Pg n a (pLoop tx n sep op item m r).1 (pLoop tx n sep op item m r).2.1 := by
  intro m
  induction m with
  | zero => intro r h; exact h
  | succ m ih =>
    intro r h
    rw [pLoop]
    by_cases q : r.1 = true ∧ cu tx n r.2.1 = sep
    · rw [if_pos q]
      apply ih
      intro ha
      have h1 := h ha
      have h2 := cu_lt q.2 hs
      have h3 := hi (r.2.1 + 1) (by omega)
      exact ⟨by show a ≤ (item (r.2.1 + 1)).2.1; omega, h3.2.1, fun _ => by show a < (item (r.2.1 + 1)).2.1; omega⟩
    · rw [if_neg q]; exact h
theorem pBoth_pg {tx : Nat → Nat} {n : Nat} {item : Nat → PR} (hi : ∀ a, Pg n a (item a).1 (item a).2.1) (a : Nat) : Pg n a (pBoth tx n item a).1 (pBoth tx n item a).2.1 := pLoop_pg vAnd (by omega) hi a 100 _ (hi a)
theorem pAny_pg {tx : Nat → Nat} {n : Nat} {item : Nat → PR} (hi : ∀ a, Pg n a (item a).1 (item a).2.1) (a : Nat) : Pg n a (pAny tx n item a).1 (pAny tx n item a).2.1 := pLoop_pg vOr (by omega) (pBoth_pg hi) a 100 _ (pBoth_pg hi a)
theorem pFac_pg (tx : Nat → Nat) (n : Nat) : ∀ k a, Pg n a (pFac tx n k a).1 (pFac tx n k a).2.1 := by
  intro k
  induction k with
  | zero => intro a; exact pTest_pg tx n a
  | succ k ih =>
    intro a ha
    rw [pFac]
    by_cases h : cu tx n a = 33
    · rw [if_pos h]
      have h1 := cu_lt h (by omega)
      have h2 := ih (a + 1) (by omega)
      exact ⟨by show a ≤ (pFac tx n k (a + 1)).2.1; omega, h2.2.1, fun _ => by show a < (pFac tx n k (a + 1)).2.1; omega⟩
    · rw [if_neg h]
      by_cases h0 : cu tx n a = 40
      · rw [if_pos h0]
        have h1 := cu_lt h0 (by omega)
        have h2 := pAny_pg (tx := tx) ih (a + 1) (by omega)
        unfold pCls
        by_cases h3 : (pAny tx n (pFac tx n k) (a + 1)).1 = true ∧ cu tx n (pAny tx n (pFac tx n k) (a + 1)).2.1 = 41
        · have h4 := cu_lt h3.2 (by omega)
          rw [if_pos h3]
          exact ⟨by show a ≤ (pAny tx n (pFac tx n k) (a + 1)).2.1 + 1; omega, by show (pAny tx n (pFac tx n k) (a + 1)).2.1 + 1 ≤ n; omega, fun _ => by show a < (pAny tx n (pFac tx n k) (a + 1)).2.1 + 1; omega⟩
        · rw [if_neg h3]
          exact ⟨by show a ≤ (pAny tx n (pFac tx n k) (a + 1)).2.1; omega, h2.2.1, fun q => by cases q⟩
      · rw [if_neg h0]; exact pTest_pg tx n a ha
theorem pWord_pg (tx : Nat → Nat) (n : Nat) : ∀ (l : List Nat) (a : Nat), (∀ c, c ∈ l → c < 999) → a ≤ n → a ≤ (pWord tx n l a).2 ∧ (pWord tx n l a).2 ≤ n ∧ ((pWord tx n l a).1 = true → (pWord tx n l a).2 = a + l.length) := by
  intro l
  induction l with
  | nil => intro a _ ha; exact ⟨Nat.le_refl _, ha, fun _ => rfl⟩
  | cons c cs ih =>
    intro a hc ha
    rw [pWord]
    by_cases h : cu tx n a = c
    · have h1 := cu_lt h (hc c (List.mem_cons_self ..))
      rw [if_pos h]
      have h2 := ih (a + 1) (fun x hx => hc x (List.mem_cons_of_mem _ hx)) (by omega)
      exact ⟨by omega, h2.2.1, fun q => by rw [h2.2.2 q, List.length_cons]; omega⟩
    · rw [if_neg h]; exact ⟨Nat.le_refl _, ha, fun q => by cases q⟩
