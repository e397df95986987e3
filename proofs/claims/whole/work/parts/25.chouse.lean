section
variable {z : Nat} {M : PM} {k : Nat}
theorem HO (hk : isH k) : zis (enc z M) (z + k) 5 = some () := e_is (sh_H hk).1
theorem HG0 (hk : isH k) : zgI (enc z M) (z + k) 5 0 = some (M.1 k 0) := e_gI (sh_H hk).1 rfl
theorem HG2 (hk : isH k) : zgI (enc z M) (z + k) 5 2 = some (M.1 k 2) := e_gI (sh_H hk).1 rfl
theorem HG4 (hk : isH k) : zgI (enc z M) (z + k) 5 4 = some (M.1 k 4) := e_gI (sh_H hk).1 rfl
theorem HG6 (hk : isH k) : zgI (enc z M) (z + k) 5 6 = some (M.1 k 6) := e_gI (sh_H hk).1 rfl
theorem HG7 (hk : isH k) : zgI (enc z M) (z + k) 5 7 = some (M.1 k 7) := e_gI (sh_H hk).1 rfl
theorem HG8 (hk : isH k) : zgI (enc z M) (z + k) 5 8 = some (M.1 k 8) := e_gI (sh_H hk).1 rfl
theorem HR1 (hk : isH k) : zgR (enc z M) (z + k) 5 1 = some (z + (k + 1)) := e_gR (sh_H hk).1 rfl
theorem HR3 (hk : isH k) : zgR (enc z M) (z + k) 5 3 = some (z + (k + 2)) := e_gR (sh_H hk).1 rfl
theorem HR5 (hk : isH k) : zgR (enc z M) (z + k) 5 5 = some (z + M.2.2 k) := e_gR (sh_H hk).1 rfl
theorem HP0 (hk : isH k) {v : Int32} : zput (enc z M) (z + k) 5 0 (.int v) = some (enc z (setI M k 0 v)) := e_pI (sh_H hk).1 rfl
theorem HP2 (hk : isH k) {v : Int32} : zput (enc z M) (z + k) 5 2 (.int v) = some (enc z (setI M k 2 v)) := e_pI (sh_H hk).1 rfl
theorem HP4 (hk : isH k) {v : Int32} : zput (enc z M) (z + k) 5 4 (.int v) = some (enc z (setI M k 4 v)) := e_pI (sh_H hk).1 rfl
theorem HP6 (hk : isH k) {v : Int32} : zput (enc z M) (z + k) 5 6 (.int v) = some (enc z (setI M k 6 v)) := e_pI (sh_H hk).1 rfl
theorem HP7 (hk : isH k) {v : Int32} : zput (enc z M) (z + k) 5 7 (.int v) = some (enc z (setI M k 7 v)) := e_pI (sh_H hk).1 rfl
theorem HP8 (hk : isH k) {v : Int32} : zput (enc z M) (z + k) 5 8 (.int v) = some (enc z (setI M k 8 v)) := e_pI (sh_H hk).1 rfl
theorem HA (hk : isH k) {i : Nat} (hi : i < 100) : zald 0 (enc z M) (z + (k + 1)) (nI i) = some (M.1 (k + 1) i) := n_ald (sh_H hk).2.1 (by decide) hi (by decide)
theorem HS (hk : isH k) {i : Nat} {v : Int32} (hi : i < 100) : zast 0 (enc z M) (z + (k + 1)) (nI i) v = some (enc z (setI M (k + 1) i v)) := n_ast (sh_H hk).2.1 (by decide) hi (by decide)
theorem HN (hk : isH k) : zlen (enc z M) (z + (k + 1)) = some (nI 100) := e_lenA (sh_H hk).2.1 (by decide)
theorem TA (hk : isH k) {i : Nat} (hi : i < 11) : zald 0 (enc z M) (z + (k + 2)) (nI i) = some (M.1 (k + 2) i) := n_ald (sh_H hk).2.2 (by decide) hi (by decide)
theorem TS (hk : isH k) {i : Nat} {v : Int32} (hi : i < 11) : zast 0 (enc z M) (z + (k + 2)) (nI i) v = some (enc z (setI M (k + 2) i v)) := n_ast (sh_H hk).2.2 (by decide) hi (by decide)
theorem TN (hk : isH k) : zlen (enc z M) (z + (k + 2)) = some (nI 11) := e_lenA (sh_H hk).2.2 (by decide)
theorem HOb (hk : isH k) {β : Type} {f : _ → Option β} : (zis (enc z M) (z + k) 5).bind f = f () := bnd (HO hk)
theorem HG0b (hk : isH k) {β : Type} {f : _ → Option β} : (zgI (enc z M) (z + k) 5 0).bind f = f (M.1 k 0) := bnd (HG0 hk)
theorem HG2b (hk : isH k) {β : Type} {f : _ → Option β} : (zgI (enc z M) (z + k) 5 2).bind f = f (M.1 k 2) := bnd (HG2 hk)
theorem HG4b (hk : isH k) {β : Type} {f : _ → Option β} : (zgI (enc z M) (z + k) 5 4).bind f = f (M.1 k 4) := bnd (HG4 hk)
theorem HG6b (hk : isH k) {β : Type} {f : _ → Option β} : (zgI (enc z M) (z + k) 5 6).bind f = f (M.1 k 6) := bnd (HG6 hk)
theorem HG7b (hk : isH k) {β : Type} {f : _ → Option β} : (zgI (enc z M) (z + k) 5 7).bind f = f (M.1 k 7) := bnd (HG7 hk)
theorem HG8b (hk : isH k) {β : Type} {f : _ → Option β} : (zgI (enc z M) (z + k) 5 8).bind f = f (M.1 k 8) := bnd (HG8 hk)
theorem HR1b (hk : isH k) {β : Type} {f : _ → Option β} : (zgR (enc z M) (z + k) 5 1).bind f = f (z + (k + 1)) := bnd (HR1 hk)
theorem HR3b (hk : isH k) {β : Type} {f : _ → Option β} : (zgR (enc z M) (z + k) 5 3).bind f = f (z + (k + 2)) := bnd (HR3 hk)
theorem HR5b (hk : isH k) {β : Type} {f : _ → Option β} : (zgR (enc z M) (z + k) 5 5).bind f = f (z + M.2.2 k) := bnd (HR5 hk)
theorem HP0b (hk : isH k) {v : Int32} {β : Type} {f : _ → Option β} : (zput (enc z M) (z + k) 5 0 (.int v)).bind f = f (enc z (setI M k 0 v)) := bnd (HP0 hk)
theorem HP2b (hk : isH k) {v : Int32} {β : Type} {f : _ → Option β} : (zput (enc z M) (z + k) 5 2 (.int v)).bind f = f (enc z (setI M k 2 v)) := bnd (HP2 hk)
theorem HP4b (hk : isH k) {v : Int32} {β : Type} {f : _ → Option β} : (zput (enc z M) (z + k) 5 4 (.int v)).bind f = f (enc z (setI M k 4 v)) := bnd (HP4 hk)
theorem HP6b (hk : isH k) {v : Int32} {β : Type} {f : _ → Option β} : (zput (enc z M) (z + k) 5 6 (.int v)).bind f = f (enc z (setI M k 6 v)) := bnd (HP6 hk)
theorem HP7b (hk : isH k) {v : Int32} {β : Type} {f : _ → Option β} : (zput (enc z M) (z + k) 5 7 (.int v)).bind f = f (enc z (setI M k 7 v)) := bnd (HP7 hk)
theorem HP8b (hk : isH k) {v : Int32} {β : Type} {f : _ → Option β} : (zput (enc z M) (z + k) 5 8 (.int v)).bind f = f (enc z (setI M k 8 v)) := bnd (HP8 hk)
theorem HAb (hk : isH k) {i : Nat} (hi : i < 100) {β : Type} {f : _ → Option β} : (zald 0 (enc z M) (z + (k + 1)) (nI i)).bind f = f (M.1 (k + 1) i) := bnd (HA hk hi)
theorem HSb (hk : isH k) {i : Nat} {v : Int32} (hi : i < 100) {β : Type} {f : _ → Option β} : (zast 0 (enc z M) (z + (k + 1)) (nI i) v).bind f = f (enc z (setI M (k + 1) i v)) := bnd (HS hk hi)
theorem HNb (hk : isH k) {β : Type} {f : _ → Option β} : (zlen (enc z M) (z + (k + 1))).bind f = f (nI 100) := bnd (HN hk)
theorem TAb (hk : isH k) {i : Nat} (hi : i < 11) {β : Type} {f : _ → Option β} : (zald 0 (enc z M) (z + (k + 2)) (nI i)).bind f = f (M.1 (k + 2) i) := bnd (TA hk hi)
theorem TSb (hk : isH k) {i : Nat} {v : Int32} (hi : i < 11) {β : Type} {f : _ → Option β} : (zast 0 (enc z M) (z + (k + 2)) (nI i) v).bind f = f (enc z (setI M (k + 2) i v)) := bnd (TS hk hi)
theorem TNb (hk : isH k) {β : Type} {f : _ → Option β} : (zlen (enc z M) (z + (k + 2))).bind f = f (nI 11) := bnd (TN hk)
end
theorem P0_2n {z : Nat} {M : PM} {β : Type} {f : _ → Option β} : (zputZ (enc z M) z 11 2 (nI 1)).bind f = f (enc z (setI M 0 2 (nI 1))) := bnd (P0_2 (Or.inr rfl))
theorem P126_3n {z : Nat} {M : PM} {β : Type} {f : _ → Option β} : (zputZ (enc z M) (z + 126) 12 3 (nI 1)).bind f = f (enc z (setI M 126 3 (nI 1))) := bnd (P126_3 (Or.inr rfl))
theorem P126_12n {z : Nat} {M : PM} {β : Type} {f : _ → Option β} : (zputZ (enc z M) (z + 126) 12 12 (nI 0)).bind f = f (enc z (setI M 126 12 (nI 0))) := bnd (P126_12 (Or.inl rfl))
theorem P126_12o {z : Nat} {M : PM} {β : Type} {f : _ → Option β} : (zputZ (enc z M) (z + 126) 12 12 (nI 1)).bind f = f (enc z (setI M 126 12 (nI 1))) := bnd (P126_12 (Or.inr rfl))
theorem rn0 {h : AH} : zret .boolean (nI 0) h = some (nI 0, h) := rfl
theorem rn1 {h : AH} : zret .boolean (nI 1) h = some (nI 1, h) := rfl
theorem bn0 (b : Bool) : (bI b = nI 0) ↔ b = false := bI0 b
theorem bn1 (b : Bool) : (bI b = nI 1) ↔ b = true := bI1 b
theorem setI_at {M : PM} {k j : Nat} {v : Int32} {a b : Nat} : (setI M k j v).1 a b = if a = k ∧ b = j then v else M.1 a b := rfl
theorem setI_2 {M : PM} {k j : Nat} {v : Int32} : (setI M k j v).2 = M.2 := rfl
theorem setI_eq {M : PM} {k j : Nat} {v : Int32} : (setI M k j v).1 k j = v := by rw [setI_at, if_pos ⟨rfl, rfl⟩]
theorem setI_ne {M : PM} {k j : Nat} {v : Int32} {a b : Nat} (h : b ≠ j) : (setI M k j v).1 a b = M.1 a b := by rw [setI_at, if_neg (fun q => h q.2)]
theorem setI_nk {M : PM} {k j : Nat} {v : Int32} {a b : Nat} (h : a ≠ k) : (setI M k j v).1 a b = M.1 a b := by rw [setI_at, if_neg (fun q => h q.1)]
theorem setI_id {M : PM} {k j : Nat} {v : Int32} (h : M.1 k j = v) : setI M k j v = M := by
  refine Prod.ext (funext fun a => funext fun b => ?_) rfl
  show (if a = k ∧ b = j then v else M.1 a b) = M.1 a b
  split
  · rename_i q; rw [q.1, q.2, h]
  · rfl
theorem setI_twice {M : PM} {k j : Nat} {v w : Int32} : setI (setI M k j v) k j w = setI M k j w := by
  refine Prod.ext (funext fun a => funext fun b => ?_) rfl
  show (if a = k ∧ b = j then w else (if a = k ∧ b = j then v else M.1 a b)) = if a = k ∧ b = j then w else M.1 a b
  split <;> rfl
theorem setI_comm {M : PM} {k j k' j' : Nat} {v w : Int32} (h : k ≠ k' ∨ j ≠ j') : setI (setI M k j v) k' j' w = setI (setI M k' j' w) k j v := by
  refine Prod.ext (funext fun a => funext fun b => ?_) rfl
  show (if a = k' ∧ b = j' then w else (if a = k ∧ b = j then v else M.1 a b)) = if a = k ∧ b = j then v else (if a = k' ∧ b = j' then w else M.1 a b)
  by_cases q : a = k' ∧ b = j'
  · rw [if_pos q, if_pos q, if_neg (fun q2 => by omega)]
  · rw [if_neg q, if_neg q]
theorem isH_84 {k : Nat} (hk : isH k) : 84 ≠ k ∧ 84 ≠ k + 1 ∧ 84 ≠ k + 2 ∧ 84 ≠ k + 3 ∧ 79 ≤ k ∧ k < 111 := by
  rcases hk with rfl | ⟨t, ht, rfl⟩ <;> omega
def sgI (tx : Nat → Nat) (n a : Nat) : Int32 := if a < n then nI (tx a) else -nI 1
/-- the house at k reads the text tx of n signs -/
def PT (M : PM) (k n : Nat) (tx : Nat → Nat) : Prop := M.1 k 6 = nI n ∧ n ≤ 100 ∧ M.2.2 k = 84 ∧ ∀ i, i < n → M.1 84 i = nI (tx i) ∧ tx i < 128
theorem sg_eq {M : PM} {k n : Nat} {tx : Nat → Nat} (hT : PT M k n tx) {a c : Nat} (hc : c < 128) : (sgI tx n a = nI c) ↔ (cu tx n a = c) := by
  unfold sgI cu
  by_cases h : a < n
  · rw [if_pos h, if_pos h]
    have := (hT.2.2.2 a h).2
    exact neq (by omega) (by omega)
  · rw [if_neg h, if_neg h]
    constructor
    · intro q
      have e : ∀ c, c < 128 → ¬ (-nI 1 : Int32) = nI c := by decide +kernel
      exact absurd q (e c hc)
    · omega
section
variable {z : Nat} {M : PM} {k n a : Nat} {tx : Nat → Nat} (N : Nat)
theorem c_sign (hk : isH k) (hT : PT M k n tx) (ha : M.1 k 7 = nI a) (han : a ≤ n) : fX5_sign N (enc z M) (z + k) = some (sgI tx n a, enc z M) := by
  obtain ⟨h6, hn, hB, ht⟩ := hT
  rw [fX5_sign, sgI]
  simp only [lit]
  by_cases h : a < n
  · simp (disch := omega) only [↓znm_, ↓reduceIte, rn0, rn1, rbI, nle_t, nle_f, nlt_t, nlt_f, neq_t, neq_f, x_add, x_mul, x_sub, x_div, ↓x_rem, x_remN, setI_eq, setI_ne, setI_nk, setI_2, bn0, bn1, reduceCtorEq, ↓HOb hk, ↓HG0b hk, ↓HG2b hk, ↓HG4b hk, ↓HG6b hk, ↓HG7b hk, ↓HG8b hk, ↓HR1b hk, ↓HR3b hk, ↓HR5b hk, ↓HP0b hk, ↓HP2b hk, ↓HP4b hk, ↓HP6b hk, ↓HP7b hk, ↓HP8b hk, ↓HAb hk, ↓HSb hk, ↓HNb hk, ↓TAb hk, ↓TSb hk, ↓TNb hk, ↓A84b, ha, h6, hB, (ht a h).1, h]
  · simp (disch := omega) only [↓znm_, ↓reduceIte, rn0, rn1, rbI, nle_t, nle_f, nlt_t, nlt_f, neq_t, neq_f, x_add, x_mul, x_sub, x_div, ↓x_rem, x_remN, setI_eq, setI_ne, setI_nk, setI_2, bn0, bn1, reduceCtorEq, ↓HOb hk, ↓HG0b hk, ↓HG2b hk, ↓HG4b hk, ↓HG6b hk, ↓HG7b hk, ↓HG8b hk, ↓HR1b hk, ↓HR3b hk, ↓HR5b hk, ↓HP0b hk, ↓HP2b hk, ↓HP4b hk, ↓HP6b hk, ↓HP7b hk, ↓HP8b hk, ↓HAb hk, ↓HSb hk, ↓HNb hk, ↓TAb hk, ↓TSb hk, ↓TNb hk, ↓A84b, ha, h6, hB, h]
def wl (s : Nat) : List Nat := if s = 0 then [104, 111, 117, 114, 115, 32] else if s = 1 then [107, 101, 101, 112, 32] else if s = 2 then [108, 111, 115, 101, 32] else if s = 3 then [32] else [41]
theorem w_len {h : AH} (s : Nat) (hs : s < 5) : fJ0_length_8abf5 N h s = some (nI (wl s).length, h) := by
  rcases (show s = 0 ∨ s = 1 ∨ s = 2 ∨ s = 3 ∨ s = 4 by omega) with rfl | rfl | rfl | rfl | rfl <;> rfl
theorem w_ch {h : AH} (s i : Nat) (hs : s < 5) (hi : i < (wl s).length) : fJ0_charAt_5068e N h s (nI i) = some (nI ((wl s).getD i 0), h) := by
  rcases (show s = 0 ∨ s = 1 ∨ s = 2 ∨ s = 3 ∨ s = 4 by omega) with rfl | rfl | rfl | rfl | rfl
  · rcases (show i = 0 ∨ i = 1 ∨ i = 2 ∨ i = 3 ∨ i = 4 ∨ i = 5 by have : (wl 0).length = 6 := rfl; omega) with rfl | rfl | rfl | rfl | rfl | rfl <;> rfl
  · rcases (show i = 0 ∨ i = 1 ∨ i = 2 ∨ i = 3 ∨ i = 4 by have : (wl 1).length = 5 := rfl; omega) with rfl | rfl | rfl | rfl | rfl <;> rfl
  · rcases (show i = 0 ∨ i = 1 ∨ i = 2 ∨ i = 3 ∨ i = 4 by have : (wl 2).length = 5 := rfl; omega) with rfl | rfl | rfl | rfl | rfl <;> rfl
  · rcases (show i = 0 by have : (wl 3).length = 1 := rfl; omega) with rfl; rfl
  · rcases (show i = 0 by have : (wl 4).length = 1 := rfl; omega) with rfl; rfl
theorem w_sv (s : Nat) (hs : s < 7) : zSv s = some s := by unfold zSv; rw [if_pos hs]
end
