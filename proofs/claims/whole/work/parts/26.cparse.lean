theorem PT_set {M : PM} {k n : Nat} {tx : Nat → Nat} (hk : isH k) (hT : PT M k n tx) {j : Nat} (hj : 6 ≠ j) (v : Int32) : PT (setI M k j v) k n tx := by
  obtain ⟨h6, hn, hB, ht⟩ := hT
  refine ⟨by rw [setI_ne hj]; exact h6, hn, hB, fun i hi => ?_⟩
  rw [setI_nk (isH_84 hk).1]
  exact ht i hi
theorem wl_lt : ∀ s, s < 5 → ∀ i, i < 6 → (wl s).getD i 0 < 128 := by decide +kernel
theorem wl_len : ∀ s, s < 5 → (wl s).length ≤ 6 := by decide +kernel
section
variable {z : Nat} {k n : Nat} {tx : Nat → Nat} (N : Nat)
theorem c_wordL (hk : isH k) (s : Nat) (hs : s < 5) : ∀ m i a (M : PM), i ≤ (wl s).length → (wl s).length - i < m → PT M k n tx → M.1 k 7 = nI a → a ≤ n → zfix (fun _ _ _ _ => none) (bX5_takeWord_2 N) m (enc z M) (z + k) s (nI i) = some (bI (pWord tx n ((wl s).drop i) a).1, enc z (setI M k 7 (nI (pWord tx n ((wl s).drop i) a).2))) := by
  intro m
  induction m with
  | zero => intro i a M _ h; omega
  | succ m ih =>
    intro i a M hi hm hT ha han
    have hl := wl_len s hs
    rw [zfix_succ, bX5_takeWord_2]
    simp only [lit]
    by_cases h : i = (wl s).length
    · subst h
      simp (disch := omega) only [↓znm_, ↓reduceIte, rn0, rn1, rbI, nle_t, nle_f, nlt_t, nlt_f, neq_t, neq_f, x_add, x_mul, x_sub, x_div, ↓x_rem, x_remN, setI_eq, setI_ne, setI_nk, setI_2, bn0, bn1, reduceCtorEq, ↓HOb hk, ↓HG0b hk, ↓HG2b hk, ↓HG4b hk, ↓HG6b hk, ↓HG7b hk, ↓HG8b hk, ↓HR1b hk, ↓HR3b hk, ↓HR5b hk, ↓HP0b hk, ↓HP2b hk, ↓HP4b hk, ↓HP6b hk, ↓HP7b hk, ↓HP8b hk, ↓HAb hk, ↓HSb hk, ↓HNb hk, ↓TAb hk, ↓TSb hk, ↓TNb hk, ↓bnd (w_sv s (by omega)), ↓zc (w_len N s hs), List.drop_length, pWord]
      rw [setI_id ha]
      rfl
    · have hd : (wl s).drop i = (wl s).getD i 0 :: (wl s).drop (i + 1) := by
        rw [List.drop_eq_getElem_cons (by omega : i < (wl s).length)]
        simp [List.getD_eq_getElem?_getD, (by omega : i < (wl s).length)]
      have hc := wl_lt s hs i (by omega)
      have e1 := c_sign (z := z) N hk hT ha han
      have e2 := w_ch N (h := enc z M) s i hs (by omega)
      have hq := sg_eq hT (a := a) hc
      rw [hd, pWord]
      by_cases hcu : cu tx n a = (wl s).getD i 0
      · have han2 := cu_lt hcu (by omega)
        simp (disch := omega) only [↓znm_, ↓reduceIte, rn0, rn1, rbI, nle_t, nle_f, nlt_t, nlt_f, neq_t, neq_f, x_add, x_mul, x_sub, x_div, ↓x_rem, x_remN, setI_eq, setI_ne, setI_nk, setI_2, bn0, bn1, reduceCtorEq, ↓HOb hk, ↓HG0b hk, ↓HG2b hk, ↓HG4b hk, ↓HG6b hk, ↓HG7b hk, ↓HG8b hk, ↓HR1b hk, ↓HR3b hk, ↓HR5b hk, ↓HP0b hk, ↓HP2b hk, ↓HP4b hk, ↓HP6b hk, ↓HP7b hk, ↓HP8b hk, ↓HAb hk, ↓HSb hk, ↓HNb hk, ↓TAb hk, ↓TSb hk, ↓TNb hk, ↓bnd (w_sv s (by omega)), ↓zc (w_len N s hs), ↓zc e1, ↓zc e2, hq, hcu, ha]
        rw [ih (i + 1) (a + 1) _ (by omega) (by omega) (PT_set hk hT (by omega) _) setI_eq (by omega), setI_twice]
      · simp (disch := omega) only [↓znm_, ↓reduceIte, rn0, rn1, rbI, nle_t, nle_f, nlt_t, nlt_f, neq_t, neq_f, x_add, x_mul, x_sub, x_div, ↓x_rem, x_remN, setI_eq, setI_ne, setI_nk, setI_2, bn0, bn1, reduceCtorEq, ↓HOb hk, ↓HG0b hk, ↓HG2b hk, ↓HG4b hk, ↓HG6b hk, ↓HG7b hk, ↓HG8b hk, ↓HR1b hk, ↓HR3b hk, ↓HR5b hk, ↓HP0b hk, ↓HP2b hk, ↓HP4b hk, ↓HP6b hk, ↓HP7b hk, ↓HP8b hk, ↓HAb hk, ↓HSb hk, ↓HNb hk, ↓TAb hk, ↓TSb hk, ↓TNb hk, ↓bnd (w_sv s (by omega)), ↓zc (w_len N s hs), ↓zc e1, ↓zc e2, hq, hcu, ha]
        rw [setI_id ha]
        rfl
theorem c_word (hN : 8 ≤ N) (hk : isH k) (s : Nat) (hs : s < 5) {M : PM} {a : Nat} (hT : PT M k n tx) (ha : M.1 k 7 = nI a) (han : a ≤ n) : fX5_takeWord N (enc z M) (z + k) s = some (bI (pWord tx n (wl s) a).1, enc z (setI M k 7 (nI (pWord tx n (wl s) a).2))) := by
  have hl := wl_len s hs
  exact c_wordL N hk s hs N 0 a M (by omega) (by omega) hT ha han
theorem setI87 {M : PM} {k : Nat} {x y : Int32} : setI (setI M k 7 y) k 8 x = setI (setI M k 8 x) k 7 y := setI_comm (Or.inr (by omega))
/-- one turn of takeNumber's loop -/
theorem c_numT (hk : isH k) {M : PM} {a x : Nat} (hT : PT M k n tx) (ha : M.1 k 7 = nI a) (han : a ≤ n) (h8 : M.1 k 8 = nI x) (hd : dig tx n a = true) (x1 : Int32) (i : Nat) (hi : i < 2) (r : AH → Nat → Int32 → Int32 → Option (Int32 × AH)) : bX5_takeNumber_12 N r (enc z M) (z + k) x1 (nI i) = r (enc z (setI (setI M k 8 (nI (x * 10 + tx a - 48))) k 7 (nI (a + 1)))) (z + k) x1 (nI (i + 1)) := by
  obtain ⟨h6, hn, hB, ht⟩ := hT
  have hd1 := of_decide_eq_true hd
  have ha1 := ht a hd1.1
  rw [bX5_takeNumber_12]
  simp only [lit]
  simp (disch := omega) only [↓znm_, ↓reduceIte, rn0, rn1, rbI, nle_t, nle_f, nlt_t, nlt_f, neq_t, neq_f, x_add, x_mul, x_sub, x_div, ↓x_rem, x_remN, setI_eq, setI_ne, setI_nk, setI_2, bn0, bn1, reduceCtorEq, ↓HOb hk, ↓HG0b hk, ↓HG2b hk, ↓HG4b hk, ↓HG6b hk, ↓HG7b hk, ↓HG8b hk, ↓HR1b hk, ↓HR3b hk, ↓HR5b hk, ↓HP0b hk, ↓HP2b hk, ↓HP4b hk, ↓HP6b hk, ↓HP7b hk, ↓HP8b hk, ↓HAb hk, ↓HSb hk, ↓HNb hk, ↓TAb hk, ↓TSb hk, ↓TNb hk, ↓A84b, ha, h6, hB, ha1.1, h8]
theorem c_numF (hk : isH k) {M : PM} {a i : Nat} (hT : PT M k n tx) (ha : M.1 k 7 = nI a) (han : a ≤ n) (hd : dig tx n a = false ∨ i = 2) (hi : i ≤ 2) (x1 : Int32) (r : AH → Nat → Int32 → Int32 → Option (Int32 × AH)) : bX5_takeNumber_12 N r (enc z M) (z + k) x1 (nI i) = bX5_takeNumber_96 N (enc z M) (z + k) x1 := by
  obtain ⟨h6, hn, hB, ht⟩ := hT
  rw [bX5_takeNumber_12]
  simp only [lit]
  by_cases h2 : i = 2
  · subst h2
    simp (disch := omega) only [↓znm_, ↓reduceIte, rn0, rn1, rbI, nle_t, nle_f, nlt_t, nlt_f, neq_t, neq_f, x_add, x_mul, x_sub, x_div, ↓x_rem, x_remN, setI_eq, setI_ne, setI_nk, setI_2, bn0, bn1, reduceCtorEq, ↓HOb hk, ↓HG0b hk, ↓HG2b hk, ↓HG4b hk, ↓HG6b hk, ↓HG7b hk, ↓HG8b hk, ↓HR1b hk, ↓HR3b hk, ↓HR5b hk, ↓HP0b hk, ↓HP2b hk, ↓HP4b hk, ↓HP6b hk, ↓HP7b hk, ↓HP8b hk, ↓HAb hk, ↓HSb hk, ↓HNb hk, ↓TAb hk, ↓TSb hk, ↓TNb hk]
  · have hd := hd.resolve_right h2
    by_cases k1 : n ≤ a
    · by_cases h3 : 2 ≤ i
      · simp (disch := omega) only [↓znm_, ↓reduceIte, rn0, rn1, rbI, nle_t, nle_f, nlt_t, nlt_f, neq_t, neq_f, x_add, x_mul, x_sub, x_div, ↓x_rem, x_remN, setI_eq, setI_ne, setI_nk, setI_2, bn0, bn1, reduceCtorEq, ↓HOb hk, ↓HG0b hk, ↓HG2b hk, ↓HG4b hk, ↓HG6b hk, ↓HG7b hk, ↓HG8b hk, ↓HR1b hk, ↓HR3b hk, ↓HR5b hk, ↓HP0b hk, ↓HP2b hk, ↓HP4b hk, ↓HP6b hk, ↓HP7b hk, ↓HP8b hk, ↓HAb hk, ↓HSb hk, ↓HNb hk, ↓TAb hk, ↓TSb hk, ↓TNb hk, ha, h6]
      · simp (disch := omega) only [↓znm_, ↓reduceIte, rn0, rn1, rbI, nle_t, nle_f, nlt_t, nlt_f, neq_t, neq_f, x_add, x_mul, x_sub, x_div, ↓x_rem, x_remN, setI_eq, setI_ne, setI_nk, setI_2, bn0, bn1, reduceCtorEq, ↓HOb hk, ↓HG0b hk, ↓HG2b hk, ↓HG4b hk, ↓HG6b hk, ↓HG7b hk, ↓HG8b hk, ↓HR1b hk, ↓HR3b hk, ↓HR5b hk, ↓HP0b hk, ↓HP2b hk, ↓HP4b hk, ↓HP6b hk, ↓HP7b hk, ↓HP8b hk, ↓HAb hk, ↓HSb hk, ↓HNb hk, ↓TAb hk, ↓TSb hk, ↓TNb hk, ha, h6]
    · have ha1 := ht a (by omega)
      by_cases h3 : 2 ≤ i
      · simp (disch := omega) only [↓znm_, ↓reduceIte, rn0, rn1, rbI, nle_t, nle_f, nlt_t, nlt_f, neq_t, neq_f, x_add, x_mul, x_sub, x_div, ↓x_rem, x_remN, setI_eq, setI_ne, setI_nk, setI_2, bn0, bn1, reduceCtorEq, ↓HOb hk, ↓HG0b hk, ↓HG2b hk, ↓HG4b hk, ↓HG6b hk, ↓HG7b hk, ↓HG8b hk, ↓HR1b hk, ↓HR3b hk, ↓HR5b hk, ↓HP0b hk, ↓HP2b hk, ↓HP4b hk, ↓HP6b hk, ↓HP7b hk, ↓HP8b hk, ↓HAb hk, ↓HSb hk, ↓HNb hk, ↓TAb hk, ↓TSb hk, ↓TNb hk, ha, h6]
      · by_cases k2 : tx a < 48
        · simp (disch := omega) only [↓znm_, ↓reduceIte, rn0, rn1, rbI, nle_t, nle_f, nlt_t, nlt_f, neq_t, neq_f, x_add, x_mul, x_sub, x_div, ↓x_rem, x_remN, setI_eq, setI_ne, setI_nk, setI_2, bn0, bn1, reduceCtorEq, ↓HOb hk, ↓HG0b hk, ↓HG2b hk, ↓HG4b hk, ↓HG6b hk, ↓HG7b hk, ↓HG8b hk, ↓HR1b hk, ↓HR3b hk, ↓HR5b hk, ↓HP0b hk, ↓HP2b hk, ↓HP4b hk, ↓HP6b hk, ↓HP7b hk, ↓HP8b hk, ↓HAb hk, ↓HSb hk, ↓HNb hk, ↓TAb hk, ↓TSb hk, ↓TNb hk, ↓A84b, ha, h6, hB, ha1.1]
        · have k3 : 57 < tx a := by
            apply Nat.lt_of_not_le
            intro q
            exact absurd hd (by rw [show dig tx n a = true from decide_eq_true ⟨by omega, by omega, q⟩]; decide)
          simp (disch := omega) only [↓znm_, ↓reduceIte, rn0, rn1, rbI, nle_t, nle_f, nlt_t, nlt_f, neq_t, neq_f, x_add, x_mul, x_sub, x_div, ↓x_rem, x_remN, setI_eq, setI_ne, setI_nk, setI_2, bn0, bn1, reduceCtorEq, ↓HOb hk, ↓HG0b hk, ↓HG2b hk, ↓HG4b hk, ↓HG6b hk, ↓HG7b hk, ↓HG8b hk, ↓HR1b hk, ↓HR3b hk, ↓HR5b hk, ↓HP0b hk, ↓HP2b hk, ↓HP4b hk, ↓HP6b hk, ↓HP7b hk, ↓HP8b hk, ↓HAb hk, ↓HSb hk, ↓HNb hk, ↓TAb hk, ↓TSb hk, ↓TNb hk, ↓A84b, ha, h6, hB, ha1.1]
theorem c_num9 (hk : isH k) {M : PM} {a b : Nat} (ha : M.1 k 7 = nI a) (h1 : b ≤ a) (h2 : a < 200) : bX5_takeNumber_96 N (enc z M) (z + k) (nI b) = some (bI (decide (b < a)), enc z M) := by
  rw [bX5_takeNumber_96]
  simp only [lit]
  by_cases h : b < a
  · simp (disch := omega) only [↓znm_, ↓reduceIte, rn0, rn1, rbI, nle_t, nle_f, nlt_t, nlt_f, neq_t, neq_f, x_add, x_mul, x_sub, x_div, ↓x_rem, x_remN, setI_eq, setI_ne, setI_nk, setI_2, bn0, bn1, reduceCtorEq, ↓HOb hk, ↓HG0b hk, ↓HG2b hk, ↓HG4b hk, ↓HG6b hk, ↓HG7b hk, ↓HG8b hk, ↓HR1b hk, ↓HR3b hk, ↓HR5b hk, ↓HP0b hk, ↓HP2b hk, ↓HP4b hk, ↓HP6b hk, ↓HP7b hk, ↓HP8b hk, ↓HAb hk, ↓HSb hk, ↓HNb hk, ↓TAb hk, ↓TSb hk, ↓TNb hk, ha]
    rw [decide_eq_true h]; rfl
  · simp (disch := omega) only [↓znm_, ↓reduceIte, rn0, rn1, rbI, nle_t, nle_f, nlt_t, nlt_f, neq_t, neq_f, x_add, x_mul, x_sub, x_div, ↓x_rem, x_remN, setI_eq, setI_ne, setI_nk, setI_2, bn0, bn1, reduceCtorEq, ↓HOb hk, ↓HG0b hk, ↓HG2b hk, ↓HG4b hk, ↓HG6b hk, ↓HG7b hk, ↓HG8b hk, ↓HR1b hk, ↓HR3b hk, ↓HR5b hk, ↓HP0b hk, ↓HP2b hk, ↓HP4b hk, ↓HP6b hk, ↓HP7b hk, ↓HP8b hk, ↓HAb hk, ↓HSb hk, ↓HNb hk, ↓TAb hk, ↓TSb hk, ↓TNb hk, ha]
    rw [decide_eq_false h]; rfl
theorem c_num (hN : 8 ≤ N) (hk : isH k) {M : PM} {a : Nat} (hT : PT M k n tx) (ha : M.1 k 7 = nI a) (han : a ≤ n) : fX5_takeNumber N (enc z M) (z + k) = some (bI (pNum tx n a).1, enc z (setI (setI M k 8 (nI (pNum tx n a).2.2)) k 7 (nI (pNum tx n a).2.1))) := by
  have hn := hT.2.1
  rw [fX5_takeNumber]
  simp only [lit]
  obtain ⟨m, hm⟩ : ∃ m, N = m + 3 := ⟨N - 3, by omega⟩
  rw [show zfix (fun _ _ _ _ => none) (bX5_takeNumber_12 N) N = bX5_takeNumber_12 N (bX5_takeNumber_12 N (bX5_takeNumber_12 N (zfix (fun _ _ _ _ => none) (bX5_takeNumber_12 N) m))) by
    have e : zfix (fun _ _ _ _ => none) (bX5_takeNumber_12 N) N = zfix (fun _ _ _ _ => none) (bX5_takeNumber_12 N) (m + 3) := congrArg _ hm
    rw [e]; rfl]
  simp (disch := omega) only [↓znm_, ↓reduceIte, rn0, rn1, rbI, nle_t, nle_f, nlt_t, nlt_f, neq_t, neq_f, x_add, x_mul, x_sub, x_div, ↓x_rem, x_remN, setI_eq, setI_ne, setI_nk, setI_2, bn0, bn1, reduceCtorEq, ↓HOb hk, ↓HG0b hk, ↓HG2b hk, ↓HG4b hk, ↓HG6b hk, ↓HG7b hk, ↓HG8b hk, ↓HR1b hk, ↓HR3b hk, ↓HR5b hk, ↓HP0b hk, ↓HP2b hk, ↓HP4b hk, ↓HP6b hk, ↓HP7b hk, ↓HP8b hk, ↓HAb hk, ↓HSb hk, ↓HNb hk, ↓TAb hk, ↓TSb hk, ↓TNb hk, ha]
  have hT0 := PT_set hk hT (j := 8) (by omega) (nI 0)
  have ha0 : (setI M k 8 (nI 0)).1 k 7 = nI a := by rw [setI_ne (by omega)]; exact ha
  rw [pNum]
  by_cases hd : dig tx n a = true
  · have hd1 := of_decide_eq_true hd
    rw [if_pos hd, c_numT N hk hT0 ha0 han setI_eq hd _ 0 (by omega), setI_twice]
    have hT1 := PT_set hk (PT_set hk hT (j := 8) (by omega) (nI (0 * 10 + tx a - 48))) (j := 7) (by omega) (nI (a + 1))
    have h8 : (setI (setI M k 8 (nI (0 * 10 + tx a - 48))) k 7 (nI (a + 1))).1 k 8 = nI (0 * 10 + tx a - 48) := by rw [setI_ne (by omega)]; exact setI_eq
    by_cases hd2 : dig tx n (a + 1) = true
    · have hd3 := of_decide_eq_true hd2
      rw [if_pos hd2, c_numT N hk hT1 setI_eq (by omega) h8 hd2 _ 1 (by omega), setI87, setI_twice, setI_twice]
      rw [c_numF N hk (PT_set hk (PT_set hk hT (j := 8) (by omega) _) (j := 7) (by omega) _) setI_eq (by omega) (Or.inr rfl) (by omega), c_num9 N hk setI_eq (by omega) (by omega)]
      have q : (0 * 10 + tx a - 48) * 10 + tx (a + 1) - 48 = 10 * (tx a - 48) + (tx (a + 1) - 48) := by omega
      rw [q, decide_eq_true (by omega : a < a + 1 + 1)]
    · rw [if_neg hd2, c_numF N hk hT1 setI_eq (by omega) (Or.inl (by cases e : dig tx n (a + 1); rfl; exact absurd e hd2)) (by omega), c_num9 N hk setI_eq (by omega) (by omega)]
      have q : 0 * 10 + tx a - 48 = tx a - 48 := by omega
      rw [q, decide_eq_true (by omega : a < a + 1)]
  · rw [if_neg hd, c_numF N hk hT0 ha0 han (Or.inl (by cases e : dig tx n a; rfl; exact absurd e hd)) (by omega), c_num9 N hk ha0 (by omega) (by omega), decide_eq_false (by omega : ¬ a < a)]
    rw [setI_id (M := setI M k 8 (nI 0)) (k := k) (j := 7) ha0]
end
