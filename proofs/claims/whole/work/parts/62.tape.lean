def nJ (n : Nat) : Int64 := Int64.ofNat n
theorem z64 : (0 : Int64) = nJ 0 := rfl
theorem nI_i {a : Nat} (h : a < 2147483648) : (nI a).toInt = (a : Int) := Int32.toInt_ofNat_of_lt (by omega)
theorem nJ_i {a : Nat} (h : a < 9223372036854775808) : (nJ a).toInt = (a : Int) := Int64.toInt_ofNat_of_lt (by omega)
theorem nJ_of {a : Nat} (h : a < 2147483648) : (nI a).toInt64 = nJ a := by
  apply Int64.toInt_inj.mp
  rw [Int32.toInt_toInt64, nI_i h, nJ_i (by omega)]
theorem nJ_add (a b : Nat) : nJ a + nJ b = nJ (a + b) := (Int64.ofNat_add a b).symm
theorem nJ_32 (a : Nat) : (nJ a).toInt32 = nI a := Int64.toInt32_ofNat'
theorem nJ_lt {a b : Nat} (ha : a < 9223372036854775808) (hb : b < 9223372036854775808) : (nJ a < nJ b) ↔ a < b := by
  rw [Int64.lt_iff_toInt_lt, nJ_i ha, nJ_i hb]; omega
theorem lg_p {a b : Nat} (h : b < a) (ha : a < 9223372036854775808) : lg_cmp (nJ a) (nJ b) = nI 1 := by
  unfold lg_cmp
  rw [if_pos (show nJ a > nJ b from (nJ_lt (by omega) ha).mpr h)]; rfl
theorem lg_e {a : Nat} : lg_cmp (nJ a) (nJ a) = nI 0 := by
  unfold lg_cmp
  rw [if_neg (fun q => Int64.lt_irrefl q), if_pos rfl]; rfl
theorem lg_m {a b : Nat} (h : a < b) (hb : b < 9223372036854775808) : lg_cmp (nJ a) (nJ b) = -nI 1 := by
  unfold lg_cmp
  rw [if_neg (fun q => by have := (nJ_lt hb (by omega)).mp q; omega), if_neg (fun q => by
    have h1 := nJ_i (a := a) (by omega)
    have h2 := nJ_i hb
    rw [q] at h1
    rw [h1] at h2
    omega)]
  rfl
theorem lg_n {x : Int32} (h : x < nI 0) {b : Nat} (hb : b < 9223372036854775808) : lg_cmp x.toInt64 (nJ b) = -nI 1 := by
  rw [Int32.lt_iff_toInt_lt, nI_i (by omega)] at h
  have h1 : x.toInt64.toInt < 0 := by rw [Int32.toInt_toInt64]; exact h
  have h2 := nJ_i hb
  unfold lg_cmp
  rw [if_neg (fun q => by have q : nJ b < x.toInt64 := q; rw [Int64.lt_iff_toInt_lt, h2] at q; omega), if_neg (fun q => by rw [q, h2] at h1; omega)]
  rfl
theorem sb_lt {a i n : Nat} (ha : a ≤ 60) (hi : i < 2147483648) (hn : n < 2147483648) : (nI a - nI i < nI n) ↔ a < i + n := by
  rw [Int32.lt_iff_toInt_lt, Int32.toInt_sub, nI_i (a := a) (by omega), nI_i hi, nI_i hn, Int.bmod_eq_of_le (by omega) (by omega)]
  omega
theorem lt_m1 {x : Int32} (h : x < nI 0) (hn : ¬ x = -nI 1) : x < -nI 1 := by
  rw [Int32.lt_iff_toInt_lt] at h ⊢
  have h1 : (nI 0).toInt = 0 := by decide
  have h2 : (-nI 1 : Int32).toInt = -1 := by decide
  have h3 : x.toInt ≠ -1 := fun q => hn (Int32.toInt_inj.mp (by rw [q, h2]))
  omega
def plB (x : Int64) (sz : Nat) : Bool := decide (¬ lg_cmp x (nJ 0) < nI 0 ∧ ¬ nI 0 ≤ lg_cmp x (nJ sz))
theorem m1n0 : (-nI 1 < nI 0) = True := by decide
theorem z0m1 : (nI 0 ≤ -nI 1) = False := by decide
theorem z0l1 : (nI 0 < -nI 1) = False := by decide
theorem plB_J {a sz : Nat} (ha : a < 9223372036854775808) (hs : sz ≤ 60) : plB (nJ a) sz = decide (a < sz) := by
  unfold plB
  have h0 : ¬ lg_cmp (nJ a) (nJ 0) < nI 0 := by
    by_cases e : a = 0
    · rw [e, lg_e]; decide
    · rw [lg_p (by omega) ha]; decide
  by_cases h : a < sz
  · rw [decide_eq_true h, decide_eq_true]
    refine ⟨h0, ?_⟩
    rw [lg_m h (by omega)]; decide
  · rw [decide_eq_false h, decide_eq_false]
    intro q
    apply q.2
    by_cases e : a = sz
    · rw [e, lg_e]; decide
    · rw [lg_p (by omega) ha]; decide
theorem plB_I {x : Int32} {sz : Nat} (hs : sz ≤ 60) : plB x.toInt64 sz = inR x sz := by
  by_cases h : x < nI 0
  · have e1 : plB x.toInt64 sz = false := decide_eq_false (fun q => q.1 (by rw [lg_n h (by omega)]; decide))
    have e2 : inR x sz = false := decide_eq_false (fun q => q.1 h)
    rw [e1, e2]
  · obtain ⟨j, hj, rfl⟩ := nI_of h
    rw [nJ_of (by omega), plB_J (by omega) hs, inR_n (by omega) (by omega)]
def stB (x y : Int32) (sz : Nat) : Bool := decide (¬ x < nI 0 ∧ ¬ y < nI 0 ∧ ¬ nI 0 < lg_cmp (x.toInt64 + y.toInt64) (nJ sz))
theorem stB_J {a b sz : Nat} (ha : a < 2147483648) (hb : b < 2147483648) (hs : sz ≤ 60) : stB (nI a) (nI b) sz = decide (a + b ≤ sz) := by
  have n0 : ∀ {c : Nat}, c < 2147483648 → ¬ nI c < nI 0 := fun {c} hc q => by have := (nlt hc (by omega)).mp q; omega
  unfold stB
  rw [nJ_of ha, nJ_of hb, nJ_add]
  by_cases h : a + b ≤ sz
  · rw [decide_eq_true h, decide_eq_true]
    refine ⟨n0 ha, n0 hb, ?_⟩
    by_cases e : a + b = sz
    · rw [e, lg_e]; decide
    · rw [lg_m (by omega) (by omega)]; decide
  · rw [decide_eq_false h, decide_eq_false]
    intro q
    apply q.2.2
    rw [lg_p (by omega) (by omega)]; decide
theorem setJ_at {M : PM} {k j : Nat} {v : Int64} {a b : Nat} : (setJ M k j v).2.1 a b = if a = k ∧ b = j then v else M.2.1 a b := rfl
theorem setJ_1 {M : PM} {k j : Nat} {v : Int64} : (setJ M k j v).1 = M.1 := rfl
def flJ (M : PM) (c i : Nat) : PM := (M.1, fun a b => if a = c ∧ b < i then nJ 0 else M.2.1 a b, M.2.2)
theorem flJ_0 {M : PM} {c : Nat} : flJ M c 0 = M := by
  refine Prod.ext rfl (Prod.ext (funext fun a => funext fun b => ?_) rfl)
  show (if a = c ∧ b < 0 then _ else M.2.1 a b) = _
  rw [if_neg (by omega)]
theorem flJ_s {M : PM} {c i : Nat} : setJ (flJ M c i) c i (nJ 0) = flJ M c (i + 1) := by
  refine Prod.ext rfl (Prod.ext (funext fun a => funext fun b => ?_) rfl)
  show (if a = c ∧ b = i then nJ 0 else if a = c ∧ b < i then nJ 0 else M.2.1 a b) = if a = c ∧ b < i + 1 then nJ 0 else M.2.1 a b
  by_cases h : a = c ∧ b = i
  · rw [if_pos h, if_pos (by omega)]
  · rw [if_neg h]
    by_cases h2 : a = c ∧ b < i
    · rw [if_pos h2, if_pos (by omega)]
    · rw [if_neg h2, if_neg (by omega)]
def flK (M : PM) (t i : Nat) : PM := (M.1, fun a b => if a = 143 ∧ 60 * t ≤ b ∧ b < 60 * t + i then nJ 0 else M.2.1 a b, M.2.2)
theorem flK_0 {M : PM} {t : Nat} : flK M t 0 = M := by
  refine Prod.ext rfl (Prod.ext (funext fun a => funext fun b => ?_) rfl)
  show (if a = 143 ∧ 60 * t ≤ b ∧ b < 60 * t + 0 then _ else M.2.1 a b) = _
  rw [if_neg (by omega)]
theorem flK_s {M : PM} {t i : Nat} : setJ (flK M t i) 143 (60 * t + i) (nJ 0) = flK M t (i + 1) := by
  refine Prod.ext rfl (Prod.ext (funext fun a => funext fun b => ?_) rfl)
  show (if a = 143 ∧ b = 60 * t + i then nJ 0 else if a = 143 ∧ 60 * t ≤ b ∧ b < 60 * t + i then nJ 0 else M.2.1 a b) = if a = 143 ∧ 60 * t ≤ b ∧ b < 60 * t + (i + 1) then nJ 0 else M.2.1 a b
  by_cases h : a = 143 ∧ b = 60 * t + i
  · rw [if_pos h, if_pos (by omega)]
  · rw [if_neg h]
    by_cases h2 : a = 143 ∧ 60 * t ≤ b ∧ b < 60 * t + i
    · rw [if_pos h2, if_pos (by omega)]
    · rw [if_neg h2, if_neg (by omega)]
theorem IV_P {M M' : PM} {R : Nat → Nat} {T : TT} {hc : Nat} (h : IV M R T hc) (hF : ∀ c j, ¬ ((114 ≤ c ∧ c < 126) ∨ c = 141 ∨ c = 142) → M'.1 c j = M.1 c j) (hP : TP M') : IV M' R T hc := by
  obtain ⟨a1, a2, a3, ⟨b1, b2, b3, b4, b5⟩, a5, a6, a7, a8⟩ := h
  have hc6 := b5.2.1
  exact ⟨CR_F (fun c j q1 q2 => hF c j (by omega)) a1, fun j hj => by rw [hF 127 j (by omega)]; exact a2 j hj, a3, ⟨by rw [hF 0 6 (by omega)]; exact b1, by rw [hF 126 8 (by omega)]; exact b2, HK_F (fun j => hF _ _ (by omega)) (hF _ _ (by omega)) (hF _ _ (by omega)) b3, fun t ht => HK_F (fun j => hF _ _ (by omega)) (hF _ _ (by omega)) (hF _ _ (by omega)) (b4 t ht), HT_e (fun c j q => hF c j (by omega)) b5⟩, IM_F (hF 0 2 (by omega)) (hF 126 3 (by omega)) (fun c j q1 q2 => hF c j (by omega)) (fun j => hF 129 j (by omega)) a5, TX_F (hF _ _ (by omega)) (hF _ _ (by omega)) (fun j => hF _ _ (by omega)) (fun j => hF _ _ (by omega)) a6, TN_F (hF 85 2 (by omega)) (hF 126 23 (by omega)) (fun c j q => hF c j (by omega)) a7, hP⟩
section
variable {z : Nat} (N : Nat) {M : PM} {R : Nat → Nat} {T : TT} {hc t : Nat}
theorem KO (ht : t < 6) {M : PM} {β : Type} {f : _ → Option β} : (zis (enc z M) (z + (114 + 2 * t)) 8).bind f = f () := bnd (e_is (sh_tape ht).1)
theorem K0 (ht : t < 6) {M : PM} {β : Type} {f : _ → Option β} : (zgI (enc z M) (z + (114 + 2 * t)) 8 0).bind f = f (M.1 (114 + 2 * t) 0) := bnd (e_gI (sh_tape ht).1 rfl)
theorem K1 (ht : t < 6) {M : PM} {β : Type} {f : _ → Option β} : (zgI (enc z M) (z + (114 + 2 * t)) 8 1).bind f = f (M.1 (114 + 2 * t) 1) := bnd (e_gI (sh_tape ht).1 rfl)
theorem K2 (ht : t < 6) {M : PM} {β : Type} {f : _ → Option β} : (zgR (enc z M) (z + (114 + 2 * t)) 8 2).bind f = f (z + (114 + 2 * t + 1)) := bnd (e_gR (sh_tape ht).1 rfl)
theorem KP0 (ht : t < 6) {M : PM} {v : Int32} {β : Type} {f : _ → Option β} : (zput (enc z M) (z + (114 + 2 * t)) 8 0 (.int v)).bind f = f (enc z (setI M (114 + 2 * t) 0 v)) := bnd (e_pI (sh_tape ht).1 rfl)
theorem KP1 (ht : t < 6) {M : PM} {v : Int32} {β : Type} {f : _ → Option β} : (zput (enc z M) (z + (114 + 2 * t)) 8 1 (.int v)).bind f = f (enc z (setI M (114 + 2 * t) 1 v)) := bnd (e_pI (sh_tape ht).1 rfl)
theorem KL (ht : t < 6) {M : PM} {i : Nat} (hi : i < 60) {β : Type} {f : _ → Option β} : (zlald (enc z M) (z + (114 + 2 * t + 1)) (nI i)).bind f = f (M.2.1 (114 + 2 * t + 1) i) := bnd (n_lald (sh_tape ht).2 hi (by decide))
theorem KS (ht : t < 6) {M : PM} {i : Nat} {v : Int64} (hi : i < 60) {β : Type} {f : _ → Option β} : (zlast (enc z M) (z + (114 + 2 * t + 1)) (nI i) v).bind f = f (enc z (setJ M (114 + 2 * t + 1) i v)) := bnd (n_last (sh_tape ht).2 hi (by decide))
theorem KN (ht : t < 6) {M : PM} {β : Type} {f : _ → Option β} : (zlen (enc z M) (z + (114 + 2 * t + 1))).bind f = f (nI 60) := bnd (e_lenA (sh_tape ht).2 (by decide))
theorem c_hr (ht : t < 6) {M : PM} : fX8_holdsRow N (enc z M) (z + (114 + 2 * t)) = some (bI (!decide (M.1 (114 + 2 * t) 0 = -nI 1)), enc z M) := by
  rw [fX8_holdsRow]; simp only [lit]
  rw [K0 ht]
  by_cases h : M.1 (114 + 2 * t) 0 = -nI 1
  · rw [decide_eq_true h]; simp only [eq_true h, ↓reduceIte]; rfl
  · rw [decide_eq_false h]; simp only [eq_false h, ↓reduceIte]; rfl
theorem c_hp (ht : t < 6) {M : PM} {sz : Nat} (hs : M.1 (114 + 2 * t) 1 = nI sz) (hz : sz ≤ 60) (x : Int64) : fX8_hasPlace N (enc z M) (z + (114 + 2 * t)) x = some (bI (!decide (M.1 (114 + 2 * t) 0 = -nI 1) && plB x sz), enc z M) := by
  have e1 := c_hr (z := z) N ht (M := M)
  rw [fX8_hasPlace]; simp only [lit, z64]
  unfold plB
  by_cases h : M.1 (114 + 2 * t) 0 = -nI 1
  · rw [decide_eq_true h] at e1 ⊢
    simp (disch := omega) only [↓znm_, ↓reduceIte, rn0, rn1, rbI, nle_t, nle_f, nlt_t, nlt_f, neq_t, neq_f, x_add, x_mul, x_sub, x_div, ↓x_rem, x_remN, setI_eq, setI_ne, setI_nk, setI_2, bn0, bn1, reduceCtorEq, ↓KO ht, ↓zc e1, Bool.not_true]; rfl
  · rw [decide_eq_false h] at e1 ⊢
    rw [Bool.not_false, Bool.true_and]
    have hz' := nJ_of (a := sz) (by omega)
    by_cases h1 : lg_cmp x (nJ 0) < nI 0
    · rw [decide_eq_false (fun q => q.1 h1)]
      simp (disch := omega) only [↓znm_, ↓reduceIte, rn0, rn1, rbI, nle_t, nle_f, nlt_t, nlt_f, neq_t, neq_f, x_add, x_mul, x_sub, x_div, ↓x_rem, x_remN, setI_eq, setI_ne, setI_nk, setI_2, bn0, bn1, reduceCtorEq, ↓KO ht, ↓zc e1, Bool.not_false, eq_true h1]; rfl
    · by_cases h2 : nI 0 ≤ lg_cmp x (nJ sz)
      · rw [decide_eq_false (fun q => q.2 h2)]
        simp (disch := omega) only [↓znm_, ↓reduceIte, rn0, rn1, rbI, nle_t, nle_f, nlt_t, nlt_f, neq_t, neq_f, x_add, x_mul, x_sub, x_div, ↓x_rem, x_remN, setI_eq, setI_ne, setI_nk, setI_2, bn0, bn1, reduceCtorEq, ↓KO ht, ↓zc e1, Bool.not_false, eq_false h1, ↓K1 ht, hs, hz', eq_true h2]; rfl
      · rw [decide_eq_true ⟨h1, h2⟩]
        simp (disch := omega) only [↓znm_, ↓reduceIte, rn0, rn1, rbI, nle_t, nle_f, nlt_t, nlt_f, neq_t, neq_f, x_add, x_mul, x_sub, x_div, ↓x_rem, x_remN, setI_eq, setI_ne, setI_nk, setI_2, bn0, bn1, reduceCtorEq, ↓KO ht, ↓zc e1, Bool.not_false, eq_false h1, ↓K1 ht, hs, hz', eq_false h2]; rfl
theorem c_st (ht : t < 6) {M : PM} {sz : Nat} (hs : M.1 (114 + 2 * t) 1 = nI sz) (hz : sz ≤ 60) (x y : Int32) : fX8_hasStretch N (enc z M) (z + (114 + 2 * t)) x y = some (bI (stB x y sz), enc z M) := by
  rw [fX8_hasStretch]; simp only [lit]
  unfold stB
  have hz' := nJ_of (a := sz) (by omega)
  by_cases h1 : x < nI 0
  · rw [decide_eq_false (fun q => q.1 h1)]
    simp (disch := omega) only [↓znm_, ↓reduceIte, rn0, rn1, rbI, nle_t, nle_f, nlt_t, nlt_f, neq_t, neq_f, x_add, x_mul, x_sub, x_div, ↓x_rem, x_remN, setI_eq, setI_ne, setI_nk, setI_2, bn0, bn1, reduceCtorEq, eq_true h1]; rfl
  · by_cases h2 : y < nI 0
    · rw [decide_eq_false (fun q => q.2.1 h2)]
      simp (disch := omega) only [↓znm_, ↓reduceIte, rn0, rn1, rbI, nle_t, nle_f, nlt_t, nlt_f, neq_t, neq_f, x_add, x_mul, x_sub, x_div, ↓x_rem, x_remN, setI_eq, setI_ne, setI_nk, setI_2, bn0, bn1, reduceCtorEq, eq_false h1, eq_true h2]; rfl
    · by_cases h3 : nI 0 < lg_cmp (x.toInt64 + y.toInt64) (nJ sz)
      · rw [decide_eq_false (fun q => q.2.2 h3)]
        simp (disch := omega) only [↓znm_, ↓reduceIte, rn0, rn1, rbI, nle_t, nle_f, nlt_t, nlt_f, neq_t, neq_f, x_add, x_mul, x_sub, x_div, ↓x_rem, x_remN, setI_eq, setI_ne, setI_nk, setI_2, bn0, bn1, reduceCtorEq, eq_false h1, eq_false h2, ↓K1 ht, hs, hz', eq_true h3]; rfl
      · rw [decide_eq_true ⟨h1, h2, h3⟩]
        simp (disch := omega) only [↓znm_, ↓reduceIte, rn0, rn1, rbI, nle_t, nle_f, nlt_t, nlt_f, neq_t, neq_f, x_add, x_mul, x_sub, x_div, ↓x_rem, x_remN, setI_eq, setI_ne, setI_nk, setI_2, bn0, bn1, reduceCtorEq, eq_false h1, eq_false h2, ↓K1 ht, hs, hz', eq_false h3]; rfl
theorem m_in5 {h : AH} {x : Int32} : fX12_isIn N h x (-nI 1) (nI 4) = some (bI (decide (x = -nI 1) || inR x 5), h) := by
  rw [fX12_isIn]; simp only [lit]
  by_cases hm : x = -nI 1
  · rw [decide_eq_true hm, hm]; rfl
  · rw [decide_eq_false hm, Bool.false_or]
    rcases inR_c x (n := 5) (by omega) with q | ⟨j, hj, rfl, q⟩
    · rw [q]
      rcases inR_f q with w | ⟨w1, w2⟩
      · simp (disch := omega) only [↓znm_, ↓reduceIte, rn0, rn1, rbI, nle_t, nle_f, nlt_t, nlt_f, neq_t, neq_f, x_add, x_mul, x_sub, x_div, ↓x_rem, x_remN, setI_eq, setI_ne, setI_nk, setI_2, bn0, bn1, reduceCtorEq, eq_true (lt_m1 w hm)]; rfl
      · have a : ¬ x < -nI 1 := fun p => w1 (Int32.lt_trans p (by decide))
        simp (disch := omega) only [↓znm_, ↓reduceIte, rn0, rn1, rbI, nle_t, nle_f, nlt_t, nlt_f, neq_t, neq_f, x_add, x_mul, x_sub, x_div, ↓x_rem, x_remN, setI_eq, setI_ne, setI_nk, setI_2, bn0, bn1, reduceCtorEq, eq_false a, eq_true (ge_f w2 (by omega)).2.2]; rfl
    · rw [q]
      rcases (show j = 0 ∨ j = 1 ∨ j = 2 ∨ j = 3 ∨ j = 4 by omega) with rfl | rfl | rfl | rfl | rfl <;> rfl
theorem c_fillJL (ht : t < 6) {M : PM} : ∀ m i, i ≤ 60 → 60 - i < m → zfix (fun _ _ _ _ _ => none) (bJ7_fill_d0a16_6 N) m (enc z (flJ M (114 + 2 * t + 1) i)) (z + (114 + 2 * t + 1)) (nJ 0) (nI i) (nI 60) = some ((), enc z (flJ M (114 + 2 * t + 1) 60)) := by
  intro m
  induction m with
  | zero => intro i _ h; omega
  | succ m ih =>
    intro i hi hm
    rw [zfix_succ, bJ7_fill_d0a16_6]
    simp only [lit]
    by_cases h : i = 60
    · subst h
      simp (disch := omega) only [↓znm_, ↓reduceIte, rn0, rn1, rbI, nle_t, nle_f, nlt_t, nlt_f, neq_t, neq_f, x_add, x_mul, x_sub, x_div, ↓x_rem, x_remN, setI_eq, setI_ne, setI_nk, setI_2, bn0, bn1, reduceCtorEq]
    · have nxt := ih (i + 1) (by omega) (by omega)
      simp (disch := omega) only [↓znm_, ↓reduceIte, rn0, rn1, rbI, nle_t, nle_f, nlt_t, nlt_f, neq_t, neq_f, x_add, x_mul, x_sub, x_div, ↓x_rem, x_remN, setI_eq, setI_ne, setI_nk, setI_2, bn0, bn1, reduceCtorEq, ↓KS ht, flJ_s]
      exact nxt
theorem c_become (hN : 300 ≤ N) (ht : t < 6) {M : PM} {x y : Int32} : fX8_become N (enc z M) (z + (114 + 2 * t)) x y = some ((), enc z (flJ (setI (setI M (114 + 2 * t) 0 x) (114 + 2 * t) 1 y) (114 + 2 * t + 1) 60)) := by
  have e := c_fillJL (z := z) N ht (M := setI (setI M (114 + 2 * t) 0 x) (114 + 2 * t) 1 y) N 0 (by omega) (by omega)
  rw [flJ_0] at e
  have e1 : fJ7_fill_d0a16 N (enc z (setI (setI M (114 + 2 * t) 0 x) (114 + 2 * t) 1 y)) (z + (114 + 2 * t + 1)) (nJ 0) = some ((), enc z (flJ (setI (setI M (114 + 2 * t) 0 x) (114 + 2 * t) 1 y) (114 + 2 * t + 1) 60)) := by
    rw [fJ7_fill_d0a16]; simp only [lit]
    rw [KN ht]
    exact e
  rw [fX8_become, KP0 ht, KP1 ht, K2 ht, z64, zc e1]
theorem m_t67 (ht : t < 6) {M : PM} : ∀ m i, i ≤ 60 → 60 - i < m → zfix (fun _ _ _ _ => none) (bX12_tape_67 N) m (enc z (flK M t i)) (z + 126) (nI t) (nI i) = some (nI 1, enc z (flK M t 60)) := by
  intro m
  induction m with
  | zero => intro i _ h; omega
  | succ m ih =>
    intro i hi hm
    rw [zfix_succ, bX12_tape_67, z64]
    simp only [lit]
    by_cases h : i = 60
    · subst h
      simp (disch := omega) only [↓znm_, ↓reduceIte, rn0, rn1, rbI, nle_t, nle_f, nlt_t, nlt_f, neq_t, neq_f, x_add, x_mul, x_sub, x_div, ↓x_rem, x_remN, setI_eq, setI_ne, setI_nk, setI_2, bn0, bn1, reduceCtorEq]
    · have nxt := ih (i + 1) (by omega) (by omega)
      simp (disch := omega) only [↓znm_, ↓reduceIte, rn0, rn1, rbI, nle_t, nle_f, nlt_t, nlt_f, neq_t, neq_f, x_add, x_mul, x_sub, x_div, ↓x_rem, x_remN, setI_eq, setI_ne, setI_nk, setI_2, bn0, bn1, reduceCtorEq, ↓O126b, ↓G126_0b, ↓G126_1b, ↓G126_2b, ↓G126_3b, ↓P126_3b, ↓G126_4b, ↓G126_5b, ↓P126_5b, ↓G126_6b, ↓G126_7b, ↓G126_8b, ↓P126_8b, ↓G126_9b, ↓G126_10b, ↓P126_10b, ↓G126_11b, ↓P126_11b, ↓G126_12b, ↓P126_12b, ↓G126_13b, ↓P126_13b, ↓G126_14b, ↓P126_14b, ↓G126_15b, ↓P126_15b, ↓G126_16b, ↓G126_17b, ↓G126_18b, ↓G126_19b, ↓G126_20b, ↓G126_21b, ↓G126_22b, ↓G126_23b, ↓P126_23b, ↓G126_24b, ↓G126_25b, ↓G126_26b, ↓G126_27b, ↓A127b, ↓A127m, ↓A127p, ↓A127mp, ↓A127pm, ↓A127pmp, ↓A127mpp, ↓A127pp, ↓S127b, ↓S127m, ↓S127p, ↓S127mp, ↓S127pm, ↓S127pmp, ↓S127mpp, ↓S127pp, ↓N127b, ↓A128b, ↓S128b, ↓N128b, ↓A129b, ↓S129b, ↓N129b, ↓A130b, ↓S130b, ↓N130b, ↓A131b, ↓A131m, ↓A131p, ↓A131mp, ↓A131pm, ↓A131pmp, ↓A131mpp, ↓A131pp, ↓S131b, ↓S131m, ↓S131p, ↓S131mp, ↓S131pm, ↓S131pmp, ↓S131mpp, ↓S131pp, ↓N131b, ↓A132b, ↓S132b, ↓N132b, ↓A133b, ↓S133b, ↓N133b, ↓A134b, ↓S134b, ↓N134b, ↓A135b, ↓S135b, ↓N135b, ↓A136b, ↓S136b, ↓N136b, ↓A137b, ↓A137m, ↓A137p, ↓A137mp, ↓A137pm, ↓A137pmp, ↓A137mpp, ↓A137pp, ↓S137b, ↓S137m, ↓S137p, ↓S137mp, ↓S137pm, ↓S137pmp, ↓S137mpp, ↓S137pp, ↓N137b, ↓A138b, ↓S138b, ↓N138b, ↓A139b, ↓A139m, ↓A139p, ↓A139mp, ↓A139pm, ↓A139pmp, ↓A139mpp, ↓A139pp, ↓S139b, ↓S139m, ↓S139p, ↓S139mp, ↓S139pm, ↓S139pmp, ↓S139mpp, ↓S139pp, ↓N139b, ↓A140b, ↓S140b, ↓N140b, ↓A141b, ↓S141b, ↓N141b, ↓A142b, ↓S142b, ↓N142b, ↓A143b, ↓A143m, ↓A143p, ↓A143mp, ↓A143pm, ↓A143pmp, ↓A143mpp, ↓A143pp, ↓S143b, ↓S143m, ↓S143p, ↓S143mp, ↓S143pm, ↓S143pmp, ↓S143mpp, ↓S143pp, ↓A144b, ↓S144b, A127b, S127b, A128b, S128b, A129b, S129b, A130b, S130b, A131b, S131b, A132b, S132b, A133b, S133b, A134b, S134b, A135b, S135b, A136b, S136b, A137b, S137b, A138b, S138b, A139b, S139b, A140b, S140b, A141b, S141b, A142b, S142b, A143b, S143b, A144b, S144b, ↓P126_3n, ↓P126_12n, ↓P126_12o, flK_s]
      exact nxt
theorem m_t42 (hN : 300 ≤ N) (ht : t < 6) {M : PM} {x y w : Int32} (hw : w = if nI 0 ≤ x then y else nI 0) : bX12_tape_42 N (enc z M) (z + 126) (nI t) x y = some (nI 1, enc z (flK (setI (setI M 141 t x) 142 t w) t 60)) := by
  have e := m_t67 (z := z) N ht (M := setI (setI M 141 t x) 142 t w) N 0 (by omega) (by omega)
  rw [flK_0] at e
  rw [bX12_tape_42]; simp only [lit]
  by_cases h : nI 0 ≤ x
  · rw [if_pos h] at hw
    subst hw
    simp (disch := omega) only [↓znm_, ↓reduceIte, rn0, rn1, rbI, nle_t, nle_f, nlt_t, nlt_f, neq_t, neq_f, x_add, x_mul, x_sub, x_div, ↓x_rem, x_remN, setI_eq, setI_ne, setI_nk, setI_2, bn0, bn1, reduceCtorEq, ↓O126b, ↓G126_0b, ↓G126_1b, ↓G126_2b, ↓G126_3b, ↓P126_3b, ↓G126_4b, ↓G126_5b, ↓P126_5b, ↓G126_6b, ↓G126_7b, ↓G126_8b, ↓P126_8b, ↓G126_9b, ↓G126_10b, ↓P126_10b, ↓G126_11b, ↓P126_11b, ↓G126_12b, ↓P126_12b, ↓G126_13b, ↓P126_13b, ↓G126_14b, ↓P126_14b, ↓G126_15b, ↓P126_15b, ↓G126_16b, ↓G126_17b, ↓G126_18b, ↓G126_19b, ↓G126_20b, ↓G126_21b, ↓G126_22b, ↓G126_23b, ↓P126_23b, ↓G126_24b, ↓G126_25b, ↓G126_26b, ↓G126_27b, ↓A127b, ↓A127m, ↓A127p, ↓A127mp, ↓A127pm, ↓A127pmp, ↓A127mpp, ↓A127pp, ↓S127b, ↓S127m, ↓S127p, ↓S127mp, ↓S127pm, ↓S127pmp, ↓S127mpp, ↓S127pp, ↓N127b, ↓A128b, ↓S128b, ↓N128b, ↓A129b, ↓S129b, ↓N129b, ↓A130b, ↓S130b, ↓N130b, ↓A131b, ↓A131m, ↓A131p, ↓A131mp, ↓A131pm, ↓A131pmp, ↓A131mpp, ↓A131pp, ↓S131b, ↓S131m, ↓S131p, ↓S131mp, ↓S131pm, ↓S131pmp, ↓S131mpp, ↓S131pp, ↓N131b, ↓A132b, ↓S132b, ↓N132b, ↓A133b, ↓S133b, ↓N133b, ↓A134b, ↓S134b, ↓N134b, ↓A135b, ↓S135b, ↓N135b, ↓A136b, ↓S136b, ↓N136b, ↓A137b, ↓A137m, ↓A137p, ↓A137mp, ↓A137pm, ↓A137pmp, ↓A137mpp, ↓A137pp, ↓S137b, ↓S137m, ↓S137p, ↓S137mp, ↓S137pm, ↓S137pmp, ↓S137mpp, ↓S137pp, ↓N137b, ↓A138b, ↓S138b, ↓N138b, ↓A139b, ↓A139m, ↓A139p, ↓A139mp, ↓A139pm, ↓A139pmp, ↓A139mpp, ↓A139pp, ↓S139b, ↓S139m, ↓S139p, ↓S139mp, ↓S139pm, ↓S139pmp, ↓S139mpp, ↓S139pp, ↓N139b, ↓A140b, ↓S140b, ↓N140b, ↓A141b, ↓S141b, ↓N141b, ↓A142b, ↓S142b, ↓N142b, ↓A143b, ↓A143m, ↓A143p, ↓A143mp, ↓A143pm, ↓A143pmp, ↓A143mpp, ↓A143pp, ↓S143b, ↓S143m, ↓S143p, ↓S143mp, ↓S143pm, ↓S143pmp, ↓S143mpp, ↓S143pp, ↓A144b, ↓S144b, A127b, S127b, A128b, S128b, A129b, S129b, A130b, S130b, A131b, S131b, A132b, S132b, A133b, S133b, A134b, S134b, A135b, S135b, A136b, S136b, A137b, S137b, A138b, S138b, A139b, S139b, A140b, S140b, A141b, S141b, A142b, S142b, A143b, S143b, A144b, S144b, ↓P126_3n, ↓P126_12n, ↓P126_12o, eq_true h]
    exact e
  · rw [if_neg h] at hw
    subst hw
    simp (disch := omega) only [↓znm_, ↓reduceIte, rn0, rn1, rbI, nle_t, nle_f, nlt_t, nlt_f, neq_t, neq_f, x_add, x_mul, x_sub, x_div, ↓x_rem, x_remN, setI_eq, setI_ne, setI_nk, setI_2, bn0, bn1, reduceCtorEq, ↓O126b, ↓G126_0b, ↓G126_1b, ↓G126_2b, ↓G126_3b, ↓P126_3b, ↓G126_4b, ↓G126_5b, ↓P126_5b, ↓G126_6b, ↓G126_7b, ↓G126_8b, ↓P126_8b, ↓G126_9b, ↓G126_10b, ↓P126_10b, ↓G126_11b, ↓P126_11b, ↓G126_12b, ↓P126_12b, ↓G126_13b, ↓P126_13b, ↓G126_14b, ↓P126_14b, ↓G126_15b, ↓P126_15b, ↓G126_16b, ↓G126_17b, ↓G126_18b, ↓G126_19b, ↓G126_20b, ↓G126_21b, ↓G126_22b, ↓G126_23b, ↓P126_23b, ↓G126_24b, ↓G126_25b, ↓G126_26b, ↓G126_27b, ↓A127b, ↓A127m, ↓A127p, ↓A127mp, ↓A127pm, ↓A127pmp, ↓A127mpp, ↓A127pp, ↓S127b, ↓S127m, ↓S127p, ↓S127mp, ↓S127pm, ↓S127pmp, ↓S127mpp, ↓S127pp, ↓N127b, ↓A128b, ↓S128b, ↓N128b, ↓A129b, ↓S129b, ↓N129b, ↓A130b, ↓S130b, ↓N130b, ↓A131b, ↓A131m, ↓A131p, ↓A131mp, ↓A131pm, ↓A131pmp, ↓A131mpp, ↓A131pp, ↓S131b, ↓S131m, ↓S131p, ↓S131mp, ↓S131pm, ↓S131pmp, ↓S131mpp, ↓S131pp, ↓N131b, ↓A132b, ↓S132b, ↓N132b, ↓A133b, ↓S133b, ↓N133b, ↓A134b, ↓S134b, ↓N134b, ↓A135b, ↓S135b, ↓N135b, ↓A136b, ↓S136b, ↓N136b, ↓A137b, ↓A137m, ↓A137p, ↓A137mp, ↓A137pm, ↓A137pmp, ↓A137mpp, ↓A137pp, ↓S137b, ↓S137m, ↓S137p, ↓S137mp, ↓S137pm, ↓S137pmp, ↓S137mpp, ↓S137pp, ↓N137b, ↓A138b, ↓S138b, ↓N138b, ↓A139b, ↓A139m, ↓A139p, ↓A139mp, ↓A139pm, ↓A139pmp, ↓A139mpp, ↓A139pp, ↓S139b, ↓S139m, ↓S139p, ↓S139mp, ↓S139pm, ↓S139pmp, ↓S139mpp, ↓S139pp, ↓N139b, ↓A140b, ↓S140b, ↓N140b, ↓A141b, ↓S141b, ↓N141b, ↓A142b, ↓S142b, ↓N142b, ↓A143b, ↓A143m, ↓A143p, ↓A143mp, ↓A143pm, ↓A143pmp, ↓A143mpp, ↓A143pp, ↓S143b, ↓S143m, ↓S143p, ↓S143mp, ↓S143pm, ↓S143pmp, ↓S143mpp, ↓S143pp, ↓A144b, ↓S144b, A127b, S127b, A128b, S128b, A129b, S129b, A130b, S130b, A131b, S131b, A132b, S132b, A133b, S133b, A134b, S134b, A135b, S135b, A136b, S136b, A137b, S137b, A138b, S138b, A139b, S139b, A140b, S140b, A141b, S141b, A142b, S142b, A143b, S143b, A144b, S144b, ↓P126_3n, ↓P126_12n, ↓P126_12o, eq_false h]
    exact e
/-- a tape becomes empty, or a row of zeros -/
theorem TP_become {M : PM} (hP : TP M) (ht : t < 6) {x : Int32} {n : Nat} (hx : x = -nI 1 ∨ ∃ s, s < 5 ∧ x = nI s) (hn : n ≤ 60) (h0 : x = -nI 1 → n = 0) : TP (flK (setI (setI (flJ (setI (setI M (114 + 2 * t) 0 x) (114 + 2 * t) 1 (nI n)) (114 + 2 * t + 1) 60) 141 t x) 142 t (nI n)) t 60) := by
  intro u hu
  have a1 : ∀ c j, (flK (setI (setI (flJ (setI (setI M (114 + 2 * t) 0 x) (114 + 2 * t) 1 (nI n)) (114 + 2 * t + 1) 60) 141 t x) 142 t (nI n)) t 60).1 c j = (setI (setI (setI (setI M (114 + 2 * t) 0 x) (114 + 2 * t) 1 (nI n)) 141 t x) 142 t (nI n)).1 c j := fun c j => rfl
  have a2 : ∀ c j, (flK (setI (setI (flJ (setI (setI M (114 + 2 * t) 0 x) (114 + 2 * t) 1 (nI n)) (114 + 2 * t + 1) 60) 141 t x) 142 t (nI n)) t 60).2.1 c j = if c = 143 ∧ 60 * t ≤ j ∧ j < 60 * t + 60 then nJ 0 else if c = 114 + 2 * t + 1 ∧ j < 60 then nJ 0 else M.2.1 c j := fun c j => rfl
  by_cases e : u = t
  · subst e
    refine ⟨?_, ?_, ⟨n, hn, ?_, ?_, fun q => h0 ?_⟩, fun j hj => ?_⟩
    · simp (disch := omega) only [a1, setI_nk, setI_ne, setI_eq]
    · simp (disch := omega) only [a1, setI_nk, setI_ne, setI_eq]; exact hx
    · simp (disch := omega) only [a1, setI_nk, setI_ne, setI_eq]
    · simp (disch := omega) only [a1, setI_nk, setI_ne, setI_eq]
    · simp (disch := omega) only [a1, setI_nk, setI_ne, setI_eq] at q; exact q
    · rw [a2, a2, if_neg (by omega), if_pos (by omega), if_pos (by omega)]
  · obtain ⟨b1, b2, b3, b4⟩ := hP u hu
    refine ⟨?_, ?_, ?_, fun j hj => ?_⟩
    · simp (disch := omega) only [a1, setI_nk, setI_ne, setI_eq]; exact b1
    · simp (disch := omega) only [a1, setI_nk, setI_ne, setI_eq]; exact b2
    · simp (disch := omega) only [a1, setI_nk, setI_ne, setI_eq]; exact b3
    · rw [a2, a2, if_neg (by omega), if_neg (by omega), if_neg (by omega), if_neg (by omega)]; exact b4 j hj
end
