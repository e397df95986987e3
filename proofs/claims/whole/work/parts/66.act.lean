def bgC (M : PM) (n b : Nat) : PM := setI (setI M 86 n (nI b)) 85 2 (nI (n + 1))
def bgM (M : PM) (n b : Nat) : PM := setI (setI M 140 n (nI b)) 126 23 (nI (n + 1))
def apC : PM → Nat → List Nat → PM
  | M, _, [] => M
  | M, n, b :: L => apC (bgC M n b) (n + 1) L
def apM : PM → Nat → List Nat → PM
  | M, _, [] => M
  | M, n, b :: L => apM (bgM M n b) (n + 1) L
theorem apC_app : ∀ (L1 L2 : List Nat) (M : PM) (n : Nat), apC (apC M n L1) (n + L1.length) L2 = apC M n (L1 ++ L2) := by
  intro L1
  induction L1 with
  | nil => intro L2 M n; rfl
  | cons b L1 ih =>
    intro L2 M n
    show apC (apC (bgC M n b) (n + 1) L1) (n + (L1.length + 1)) L2 = apC (bgC M n b) (n + 1) (L1 ++ L2)
    rw [← ih, show n + (L1.length + 1) = n + 1 + L1.length by omega]
theorem apM_app : ∀ (L1 L2 : List Nat) (M : PM) (n : Nat), apM (apM M n L1) (n + L1.length) L2 = apM M n (L1 ++ L2) := by
  intro L1
  induction L1 with
  | nil => intro L2 M n; rfl
  | cons b L1 ih =>
    intro L2 M n
    show apM (apM (bgM M n b) (n + 1) L1) (n + (L1.length + 1)) L2 = apM (bgM M n b) (n + 1) (L1 ++ L2)
    rw [← ih, show n + (L1.length + 1) = n + 1 + L1.length by omega]
theorem apC_F : ∀ (L : List Nat) (M : PM) (n c j : Nat), ¬ (c = 86 ∨ (c = 85 ∧ j = 2)) → (apC M n L).1 c j = M.1 c j := by
  intro L
  induction L with
  | nil => intro M n c j _; rfl
  | cons b L ih =>
    intro M n c j h
    show (apC (bgC M n b) (n + 1) L).1 c j = _
    rw [ih _ _ _ _ h]
    unfold bgC
    rw [setI_at, if_neg (by omega), setI_nk (by omega)]
theorem apM_F : ∀ (L : List Nat) (M : PM) (n c j : Nat), ¬ (c = 140 ∨ (c = 126 ∧ j = 23)) → (apM M n L).1 c j = M.1 c j := by
  intro L
  induction L with
  | nil => intro M n c j _; rfl
  | cons b L ih =>
    intro M n c j h
    show (apM (bgM M n b) (n + 1) L).1 c j = _
    rw [ih _ _ _ _ h]
    unfold bgM
    rw [setI_at, if_neg (by omega), setI_nk (by omega)]
theorem apC_n : ∀ (L : List Nat) (M : PM) (n : Nat), M.1 85 2 = nI n → (apC M n L).1 85 2 = nI (n + L.length) := by
  intro L
  induction L with
  | nil => intro M n h; exact h
  | cons b L ih =>
    intro M n h
    show (apC (bgC M n b) (n + 1) L).1 85 2 = nI (n + (L.length + 1))
    rw [ih _ _ (by unfold bgC; exact setI_eq), show n + 1 + L.length = n + (L.length + 1) by omega]
theorem apM_n : ∀ (L : List Nat) (M : PM) (n : Nat), M.1 126 23 = nI n → (apM M n L).1 126 23 = nI (n + L.length) := by
  intro L
  induction L with
  | nil => intro M n h; exact h
  | cons b L ih =>
    intro M n h
    show (apM (bgM M n b) (n + 1) L).1 126 23 = nI (n + (L.length + 1))
    rw [ih _ _ (by unfold bgM; exact setI_eq), show n + 1 + L.length = n + (L.length + 1) by omega]
theorem ap_row : ∀ (L : List Nat) (M M' : PM) (n i : Nat), M.1 86 i = M'.1 140 i → (apC M n L).1 86 i = (apM M' n L).1 140 i := by
  intro L
  induction L with
  | nil => intro M M' n i h; exact h
  | cons b L ih =>
    intro M M' n i h
    show (apC (bgC M n b) (n + 1) L).1 86 i = (apM (bgM M' n b) (n + 1) L).1 140 i
    apply ih
    have e1 : (bgC M n b).1 86 i = (setI M 86 n (nI b)).1 86 i := setI_nk (by omega)
    have e2 : (bgM M' n b).1 140 i = (setI M' 140 n (nI b)).1 140 i := setI_nk (by omega)
    rw [e1, e2]
    by_cases e : i = n
    · rw [e, setI_eq, setI_eq]
    · rw [setI_ne e, setI_ne e]; exact h
theorem ap_2 : ∀ (L : List Nat) (M : PM) (n : Nat), (apC M n L).2 = M.2 ∧ (apM M n L).2 = M.2 := by
  intro L
  induction L with
  | nil => intro M n; exact ⟨rfl, rfl⟩
  | cons b L ih => intro M n; exact ⟨(ih (bgC M n b) (n + 1)).1, (ih (bgM M n b) (n + 1)).2⟩
/-- what an act answers, from the kind s on, by a master of kind k: dines, nods, tells; and which bodies run -/
def dV (k i v : Nat) (x : Int32) : Int32 := if k = 2 ∨ k = 5 then x * nI 3 + nI i else if k = 4 then -(x + nI i) else if k = 6 then (x + nI i) ^^^ nI v else x + nI i
def dL (k : Nat) : List Nat := if k = 2 ∨ k = 5 then [30, 10] else if k = 4 then [50, 10] else if k = 6 then [71, 10] else [10]
def nV (s k i v : Nat) (x : Int32) : Int32 := if s = 1 then (dV k i v x - nI v) ^^^ nI 6 else if s = 4 then (dV k i v (x + nI 1) - nI v) ^^^ nI 6 else if s = 6 then (dV k i v x - nI v) + (nI 2 + nI i) else dV k i v x - nI v
def nL_ (s k : Nat) : List Nat := if s = 1 then 20 :: 11 :: dL k else if s = 4 then 51 :: 20 :: 11 :: dL k else if s = 6 then (70 :: 11 :: dL k) ++ [10] else 11 :: dL k
def tV (s k i v : Nat) (x : Int32) : Int32 := if s = 3 ∨ s = 6 then nV k k i v x * nI 2 + nV k k i v (nI 1) else if s = 5 then nV k k i v (x - nI i) * nI 2 else nV k k i v x * nI 2
def tL_ (s k : Nat) : List Nat := if s = 3 ∨ s = 6 then (40 :: 12 :: nL_ k k) ++ nL_ k k else if s = 5 then 60 :: 12 :: nL_ k k else 12 :: nL_ k k
theorem dL_len : ∀ k, k < 7 → (dL k).length ≤ 2 := by decide
theorem nL_len : ∀ s, s < 7 → ∀ k, k < 7 → (nL_ s k).length ≤ 5 := by decide
theorem tL_len : ∀ k, k < 7 → (tL_ k k).length ≤ 12 := by decide
/-- the model's state for an act -/
def AM (M : PM) (n : Nat) (R : Nat → Nat) : Prop := M.1 126 23 = nI n ∧ MR M R ∧ (∀ i, i < 7 → M.1 138 i = abv.getD i 0) ∧ ∀ i, i < 21 → M.1 139 i = nI (bds.getD i 0)
theorem AM_ap {M : PM} {n : Nat} {R : Nat → Nat} (h : AM M n R) (L : List Nat) : AM (apM M n L) (n + L.length) R := ⟨apM_n L M n h.1, fun j hj => by rw [apM_F _ _ _ _ _ (by omega)]; exact h.2.1 j hj, fun j hj => by rw [apM_F _ _ _ _ _ (by omega)]; exact h.2.2.1 j hj, fun j hj => by rw [apM_F _ _ _ _ _ (by omega)]; exact h.2.2.2 j hj⟩
theorem AM_bg {M : PM} {n b : Nat} {R : Nat → Nat} (h : AM M n R) : AM (bgM M n b) (n + 1) R := AM_ap h [b]
section
variable {z : Nat} (N : Nat) {R : Nat → Nat}
theorem m_body {M : PM} {n b : Nat} (h : AM M n R) (hn : n < 20) : fX12_body N (enc z M) (z + 126) (nI b) = some (nI b, enc z (bgM M n b)) := by
  have h1 := h.1
  unfold bgM
  rw [fX12_body]; simp only [lit]; simp (disch := omega) only [↓znm_, ↓reduceIte, rn0, rn1, rbI, nle_t, nle_f, nlt_t, nlt_f, neq_t, neq_f, x_add, x_mul, x_sub, x_div, ↓x_rem, x_remN, setI_eq, setI_ne, setI_nk, setI_2, bn0, bn1, reduceCtorEq, ↓O126b, ↓G126_0b, ↓G126_1b, ↓G126_2b, ↓G126_3b, ↓P126_3b, ↓G126_4b, ↓G126_5b, ↓P126_5b, ↓G126_6b, ↓G126_7b, ↓G126_8b, ↓P126_8b, ↓G126_9b, ↓G126_10b, ↓P126_10b, ↓G126_11b, ↓P126_11b, ↓G126_12b, ↓P126_12b, ↓G126_13b, ↓P126_13b, ↓G126_14b, ↓P126_14b, ↓G126_15b, ↓P126_15b, ↓G126_16b, ↓G126_17b, ↓G126_18b, ↓G126_19b, ↓G126_20b, ↓G126_21b, ↓G126_22b, ↓G126_23b, ↓P126_23b, ↓G126_24b, ↓G126_25b, ↓G126_26b, ↓G126_27b, ↓A127b, ↓A127m, ↓A127p, ↓A127mp, ↓A127pm, ↓A127pmp, ↓A127mpp, ↓A127pp, ↓S127b, ↓S127m, ↓S127p, ↓S127mp, ↓S127pm, ↓S127pmp, ↓S127mpp, ↓S127pp, ↓N127b, ↓A128b, ↓S128b, ↓N128b, ↓A129b, ↓S129b, ↓N129b, ↓A130b, ↓S130b, ↓N130b, ↓A131b, ↓A131m, ↓A131p, ↓A131mp, ↓A131pm, ↓A131pmp, ↓A131mpp, ↓A131pp, ↓S131b, ↓S131m, ↓S131p, ↓S131mp, ↓S131pm, ↓S131pmp, ↓S131mpp, ↓S131pp, ↓N131b, ↓A132b, ↓S132b, ↓N132b, ↓A133b, ↓S133b, ↓N133b, ↓A134b, ↓S134b, ↓N134b, ↓A135b, ↓S135b, ↓N135b, ↓A136b, ↓S136b, ↓N136b, ↓A137b, ↓A137m, ↓A137p, ↓A137mp, ↓A137pm, ↓A137pmp, ↓A137mpp, ↓A137pp, ↓S137b, ↓S137m, ↓S137p, ↓S137mp, ↓S137pm, ↓S137pmp, ↓S137mpp, ↓S137pp, ↓N137b, ↓A138b, ↓S138b, ↓N138b, ↓A139b, ↓A139m, ↓A139p, ↓A139mp, ↓A139pm, ↓A139pmp, ↓A139mpp, ↓A139pp, ↓S139b, ↓S139m, ↓S139p, ↓S139mp, ↓S139pm, ↓S139pmp, ↓S139mpp, ↓S139pp, ↓N139b, ↓A140b, ↓S140b, ↓N140b, ↓A141b, ↓S141b, ↓N141b, ↓A142b, ↓S142b, ↓N142b, ↓A143b, ↓A143m, ↓A143p, ↓A143mp, ↓A143pm, ↓A143pmp, ↓A143mpp, ↓A143pp, ↓S143b, ↓S143m, ↓S143p, ↓S143mp, ↓S143pm, ↓S143pmp, ↓S143mpp, ↓S143pp, ↓A144b, ↓S144b, A127b, S127b, A128b, S128b, A129b, S129b, A130b, S130b, A131b, S131b, A132b, S132b, A133b, S133b, A134b, S134b, A135b, S135b, A136b, S136b, A137b, S137b, A138b, S138b, A139b, S139b, A140b, S140b, A141b, S141b, A142b, S142b, A143b, S143b, A144b, S144b, ↓P126_3n, ↓P126_12n, ↓P126_12o, h1, bX12_body_19, lit]
theorem ff0_0 (hN : 300 ≤ N) {M : PM} {n i : Nat} {x : Int32} (hi : i < 6) (h : AM M n R) (hn : n < 20) (rL : AH → Nat → Int32 → Int32 → Int32 → Option (Int32 × AH)) (rM : AH → Nat → Int32 → Int32 → Int32 → Int32 → Option (Int32 × AH)) : fX12_from N rL rM (enc z M) (z + 126) (nI 0) (nI i) (nI 0) x = some (x + nI i, enc z (bgM M n 10)) := by
  have b0 : M.1 139 (3 * 0 + 0) = nI 10 := h.2.2.2 0 (by omega)
  have a0 : M.1 138 0 = -nI 1 := h.2.2.1 0 (by omega)
  have e0 := m_body (z := z) N (b := 10) h hn
  rw [fX12_from, zu5 _ _ (by omega)]
  rw [bX12_from_3]; simp only [lit]
  rw [G126_21b, A139mp (by omega), b0]
  simp (disch := omega) only [neq_f, ↓reduceIte]
  rw [G126_20b, A138b (by omega), a0, G126_21b, A139mp (by omega), b0, O126b, zc e0]
  simp (disch := omega) only [neq_f, neq_t, ↓reduceIte]
theorem ff1_0 (hN : 300 ≤ N) {M : PM} {n i : Nat} {x : Int32} (hi : i < 6) (h : AM M n R) (hn : n < 20) (rL : AH → Nat → Int32 → Int32 → Int32 → Option (Int32 × AH)) (rM : AH → Nat → Int32 → Int32 → Int32 → Int32 → Option (Int32 × AH)) : fX12_from N rL rM (enc z M) (z + 126) (nI 1) (nI i) (nI 0) x = some (x + nI i, enc z (bgM M n 10)) := by
  have b1 : M.1 139 (3 * 1 + 0) = nI 0 := h.2.2.2 3 (by omega)
  have a1 : M.1 138 1 = nI 0 := h.2.2.1 1 (by omega)
  have b0 : M.1 139 (3 * 0 + 0) = nI 10 := h.2.2.2 0 (by omega)
  have a0 : M.1 138 0 = -nI 1 := h.2.2.1 0 (by omega)
  have e0 := m_body (z := z) N (b := 10) h hn
  rw [fX12_from, zu5 _ _ (by omega)]
  rw [bX12_from_3]; simp only [lit]
  rw [G126_21b, A139mp (by omega), b1]
  simp (disch := omega) only [neq_t, ↓reduceIte]
  rw [G126_20b, A138b (by omega), a1]
  rw [bX12_from_3]; simp only [lit]
  rw [G126_21b, A139mp (by omega), b0]
  simp (disch := omega) only [neq_f, ↓reduceIte]
  rw [G126_20b, A138b (by omega), a0, G126_21b, A139mp (by omega), b0, O126b, zc e0]
  simp (disch := omega) only [neq_f, neq_t, ↓reduceIte]
theorem ff2_0 (hN : 300 ≤ N) {M : PM} {n i : Nat} {x : Int32} (hi : i < 6) (h : AM M n R) (hn : n < 20) (rL : AH → Nat → Int32 → Int32 → Int32 → Option (Int32 × AH)) (rM : AH → Nat → Int32 → Int32 → Int32 → Int32 → Option (Int32 × AH)) {w : Int32} {M2 : PM} (c1 : rM (enc z (bgM M n 30)) (z + 126) (nI 0) (nI i) (nI 0) (x * nI 3) = some (w, enc z M2)) : fX12_from N rL rM (enc z M) (z + 126) (nI 2) (nI i) (nI 0) x = some (w, enc z M2) := by
  have b2 : M.1 139 (3 * 2 + 0) = nI 30 := h.2.2.2 6 (by omega)
  have a2 : M.1 138 2 = nI 0 := h.2.2.1 2 (by omega)
  have e0 := m_body (z := z) N (b := 30) h hn
  rw [fX12_from, zu5 _ _ (by omega)]
  rw [bX12_from_3]; simp only [lit]
  rw [G126_21b, A139mp (by omega), b2]
  simp (disch := omega) only [neq_f, ↓reduceIte]
  rw [G126_20b, A138b (by omega), a2, G126_21b, A139mp (by omega), b2, O126b, zc e0]
  simp (disch := omega) only [neq_f, neq_t, ↓reduceIte]
  rw [O126b, zc c1]
theorem ff3_0 (hN : 300 ≤ N) {M : PM} {n i : Nat} {x : Int32} (hi : i < 6) (h : AM M n R) (hn : n < 20) (rL : AH → Nat → Int32 → Int32 → Int32 → Option (Int32 × AH)) (rM : AH → Nat → Int32 → Int32 → Int32 → Int32 → Option (Int32 × AH)) : fX12_from N rL rM (enc z M) (z + 126) (nI 3) (nI i) (nI 0) x = some (x + nI i, enc z (bgM M n 10)) := by
  have b3 : M.1 139 (3 * 3 + 0) = nI 0 := h.2.2.2 9 (by omega)
  have a3 : M.1 138 3 = nI 0 := h.2.2.1 3 (by omega)
  have b0 : M.1 139 (3 * 0 + 0) = nI 10 := h.2.2.2 0 (by omega)
  have a0 : M.1 138 0 = -nI 1 := h.2.2.1 0 (by omega)
  have e0 := m_body (z := z) N (b := 10) h hn
  rw [fX12_from, zu5 _ _ (by omega)]
  rw [bX12_from_3]; simp only [lit]
  rw [G126_21b, A139mp (by omega), b3]
  simp (disch := omega) only [neq_t, ↓reduceIte]
  rw [G126_20b, A138b (by omega), a3]
  rw [bX12_from_3]; simp only [lit]
  rw [G126_21b, A139mp (by omega), b0]
  simp (disch := omega) only [neq_f, ↓reduceIte]
  rw [G126_20b, A138b (by omega), a0, G126_21b, A139mp (by omega), b0, O126b, zc e0]
  simp (disch := omega) only [neq_f, neq_t, ↓reduceIte]
theorem ff4_0 (hN : 300 ≤ N) {M : PM} {n i : Nat} {x : Int32} (hi : i < 6) (h : AM M n R) (hn : n < 20) (rL : AH → Nat → Int32 → Int32 → Int32 → Option (Int32 × AH)) (rM : AH → Nat → Int32 → Int32 → Int32 → Int32 → Option (Int32 × AH)) {w : Int32} {M2 : PM} (c1 : rM (enc z (bgM M n 50)) (z + 126) (nI 1) (nI i) (nI 0) x = some (w, enc z M2)) : fX12_from N rL rM (enc z M) (z + 126) (nI 4) (nI i) (nI 0) x = some (-w, enc z M2) := by
  have b4 : M.1 139 (3 * 4 + 0) = nI 50 := h.2.2.2 12 (by omega)
  have a4 : M.1 138 4 = nI 1 := h.2.2.1 4 (by omega)
  have e0 := m_body (z := z) N (b := 50) h hn
  rw [fX12_from, zu5 _ _ (by omega)]
  rw [bX12_from_3]; simp only [lit]
  rw [G126_21b, A139mp (by omega), b4]
  simp (disch := omega) only [neq_f, ↓reduceIte]
  rw [G126_20b, A138b (by omega), a4, G126_21b, A139mp (by omega), b4, O126b, zc e0]
  simp (disch := omega) only [neq_f, neq_t, ↓reduceIte]
  rw [O126b, zc c1]
theorem ff5_0 (hN : 300 ≤ N) {M : PM} {n i : Nat} {x : Int32} (hi : i < 6) (h : AM M n R) (hn : n < 20) (rL : AH → Nat → Int32 → Int32 → Int32 → Option (Int32 × AH)) (rM : AH → Nat → Int32 → Int32 → Int32 → Int32 → Option (Int32 × AH)) {w : Int32} {M2 : PM} (c1 : rM (enc z (bgM M n 30)) (z + 126) (nI 0) (nI i) (nI 0) (x * nI 3) = some (w, enc z M2)) : fX12_from N rL rM (enc z M) (z + 126) (nI 5) (nI i) (nI 0) x = some (w, enc z M2) := by
  have b5 : M.1 139 (3 * 5 + 0) = nI 0 := h.2.2.2 15 (by omega)
  have a5 : M.1 138 5 = nI 2 := h.2.2.1 5 (by omega)
  have b2 : M.1 139 (3 * 2 + 0) = nI 30 := h.2.2.2 6 (by omega)
  have a2 : M.1 138 2 = nI 0 := h.2.2.1 2 (by omega)
  have e0 := m_body (z := z) N (b := 30) h hn
  rw [fX12_from, zu5 _ _ (by omega)]
  rw [bX12_from_3]; simp only [lit]
  rw [G126_21b, A139mp (by omega), b5]
  simp (disch := omega) only [neq_t, ↓reduceIte]
  rw [G126_20b, A138b (by omega), a5]
  rw [bX12_from_3]; simp only [lit]
  rw [G126_21b, A139mp (by omega), b2]
  simp (disch := omega) only [neq_f, ↓reduceIte]
  rw [G126_20b, A138b (by omega), a2, G126_21b, A139mp (by omega), b2, O126b, zc e0]
  simp (disch := omega) only [neq_f, neq_t, ↓reduceIte]
  rw [O126b, zc c1]
theorem ff6_0 (hN : 300 ≤ N) {M : PM} {n i : Nat} {x : Int32} (hi : i < 6) (h : AM M n R) (hn : n < 20) (rL : AH → Nat → Int32 → Int32 → Int32 → Option (Int32 × AH)) (rM : AH → Nat → Int32 → Int32 → Int32 → Int32 → Option (Int32 × AH)) {w : Int32} {M2 : PM} {n2 : Nat} (c1 : rM (enc z (bgM M n 71)) (z + 126) (nI 3) (nI i) (nI 0) x = some (w, enc z M2)) (h2 : AM M2 n2 R) : fX12_from N rL rM (enc z M) (z + 126) (nI 6) (nI i) (nI 0) x = some (w ^^^ nI (R (7 * i + 1)), enc z M2) := by
  have b6 : M.1 139 (3 * 6 + 0) = nI 71 := h.2.2.2 18 (by omega)
  have a6 : M.1 138 6 = nI 3 := h.2.2.1 6 (by omega)
  have e0 := m_body (z := z) N (b := 71) h hn
  have e9 := m_v (z := z) N h2.2.1 hi
  rw [fX12_from, zu5 _ _ (by omega)]
  rw [bX12_from_3]; simp only [lit]
  rw [G126_21b, A139mp (by omega), b6]
  simp (disch := omega) only [neq_f, ↓reduceIte]
  rw [G126_20b, A138b (by omega), a6, G126_21b, A139mp (by omega), b6, O126b, zc e0]
  simp (disch := omega) only [neq_f, neq_t, ↓reduceIte]
  rw [O126b, zc c1, O126b, zc e9]
theorem ff0_1 (hN : 300 ≤ N) {M : PM} {n i : Nat} {x : Int32} (hi : i < 6) (h : AM M n R) (hn : n < 20) (rL : AH → Nat → Int32 → Int32 → Int32 → Option (Int32 × AH)) (rM : AH → Nat → Int32 → Int32 → Int32 → Int32 → Option (Int32 × AH)) {w : Int32} {M2 : PM} {n2 : Nat} (c1 : rL (enc z (bgM M n 11)) (z + 126) (nI i) (nI 0) x = some (w, enc z M2)) (h2 : AM M2 n2 R) : fX12_from N rL rM (enc z M) (z + 126) (nI 0) (nI i) (nI 1) x = some (w - nI (R (7 * i + 1)), enc z M2) := by
  have b0 : M.1 139 (3 * 0 + 1) = nI 11 := h.2.2.2 1 (by omega)
  have a0 : M.1 138 0 = -nI 1 := h.2.2.1 0 (by omega)
  have e0 := m_body (z := z) N (b := 11) h hn
  have e9 := m_v (z := z) N h2.2.1 hi
  rw [fX12_from, zu5 _ _ (by omega)]
  rw [bX12_from_3]; simp only [lit]
  rw [G126_21b, A139mp (by omega), b0]
  simp (disch := omega) only [neq_f, ↓reduceIte]
  rw [G126_20b, A138b (by omega), a0, G126_21b, A139mp (by omega), b0, O126b, zc e0]
  simp (disch := omega) only [neq_f, neq_t, ↓reduceIte]
  rw [O126b, zc c1, O126b, zc e9]
theorem ff1_1 (hN : 300 ≤ N) {M : PM} {n i : Nat} {x : Int32} (hi : i < 6) (h : AM M n R) (hn : n < 20) (rL : AH → Nat → Int32 → Int32 → Int32 → Option (Int32 × AH)) (rM : AH → Nat → Int32 → Int32 → Int32 → Int32 → Option (Int32 × AH)) {w : Int32} {M2 : PM} (c1 : rM (enc z (bgM M n 20)) (z + 126) (nI 0) (nI i) (nI 1) x = some (w, enc z M2)) : fX12_from N rL rM (enc z M) (z + 126) (nI 1) (nI i) (nI 1) x = some (w ^^^ nI 6, enc z M2) := by
  have b1 : M.1 139 (3 * 1 + 1) = nI 20 := h.2.2.2 4 (by omega)
  have a1 : M.1 138 1 = nI 0 := h.2.2.1 1 (by omega)
  have e0 := m_body (z := z) N (b := 20) h hn
  rw [fX12_from, zu5 _ _ (by omega)]
  rw [bX12_from_3]; simp only [lit]
  rw [G126_21b, A139mp (by omega), b1]
  simp (disch := omega) only [neq_f, ↓reduceIte]
  rw [G126_20b, A138b (by omega), a1, G126_21b, A139mp (by omega), b1, O126b, zc e0]
  simp (disch := omega) only [neq_f, neq_t, ↓reduceIte]
  rw [O126b, zc c1]
theorem ff2_1 (hN : 300 ≤ N) {M : PM} {n i : Nat} {x : Int32} (hi : i < 6) (h : AM M n R) (hn : n < 20) (rL : AH → Nat → Int32 → Int32 → Int32 → Option (Int32 × AH)) (rM : AH → Nat → Int32 → Int32 → Int32 → Int32 → Option (Int32 × AH)) {w : Int32} {M2 : PM} {n2 : Nat} (c1 : rL (enc z (bgM M n 11)) (z + 126) (nI i) (nI 0) x = some (w, enc z M2)) (h2 : AM M2 n2 R) : fX12_from N rL rM (enc z M) (z + 126) (nI 2) (nI i) (nI 1) x = some (w - nI (R (7 * i + 1)), enc z M2) := by
  have b2 : M.1 139 (3 * 2 + 1) = nI 0 := h.2.2.2 7 (by omega)
  have a2 : M.1 138 2 = nI 0 := h.2.2.1 2 (by omega)
  have b0 : M.1 139 (3 * 0 + 1) = nI 11 := h.2.2.2 1 (by omega)
  have a0 : M.1 138 0 = -nI 1 := h.2.2.1 0 (by omega)
  have e0 := m_body (z := z) N (b := 11) h hn
  have e9 := m_v (z := z) N h2.2.1 hi
  rw [fX12_from, zu5 _ _ (by omega)]
  rw [bX12_from_3]; simp only [lit]
  rw [G126_21b, A139mp (by omega), b2]
  simp (disch := omega) only [neq_t, ↓reduceIte]
  rw [G126_20b, A138b (by omega), a2]
  rw [bX12_from_3]; simp only [lit]
  rw [G126_21b, A139mp (by omega), b0]
  simp (disch := omega) only [neq_f, ↓reduceIte]
  rw [G126_20b, A138b (by omega), a0, G126_21b, A139mp (by omega), b0, O126b, zc e0]
  simp (disch := omega) only [neq_f, neq_t, ↓reduceIte]
  rw [O126b, zc c1, O126b, zc e9]
theorem ff3_1 (hN : 300 ≤ N) {M : PM} {n i : Nat} {x : Int32} (hi : i < 6) (h : AM M n R) (hn : n < 20) (rL : AH → Nat → Int32 → Int32 → Int32 → Option (Int32 × AH)) (rM : AH → Nat → Int32 → Int32 → Int32 → Int32 → Option (Int32 × AH)) {w : Int32} {M2 : PM} {n2 : Nat} (c1 : rL (enc z (bgM M n 11)) (z + 126) (nI i) (nI 0) x = some (w, enc z M2)) (h2 : AM M2 n2 R) : fX12_from N rL rM (enc z M) (z + 126) (nI 3) (nI i) (nI 1) x = some (w - nI (R (7 * i + 1)), enc z M2) := by
  have b3 : M.1 139 (3 * 3 + 1) = nI 0 := h.2.2.2 10 (by omega)
  have a3 : M.1 138 3 = nI 0 := h.2.2.1 3 (by omega)
  have b0 : M.1 139 (3 * 0 + 1) = nI 11 := h.2.2.2 1 (by omega)
  have a0 : M.1 138 0 = -nI 1 := h.2.2.1 0 (by omega)
  have e0 := m_body (z := z) N (b := 11) h hn
  have e9 := m_v (z := z) N h2.2.1 hi
  rw [fX12_from, zu5 _ _ (by omega)]
  rw [bX12_from_3]; simp only [lit]
  rw [G126_21b, A139mp (by omega), b3]
  simp (disch := omega) only [neq_t, ↓reduceIte]
  rw [G126_20b, A138b (by omega), a3]
  rw [bX12_from_3]; simp only [lit]
  rw [G126_21b, A139mp (by omega), b0]
  simp (disch := omega) only [neq_f, ↓reduceIte]
  rw [G126_20b, A138b (by omega), a0, G126_21b, A139mp (by omega), b0, O126b, zc e0]
  simp (disch := omega) only [neq_f, neq_t, ↓reduceIte]
  rw [O126b, zc c1, O126b, zc e9]
theorem ff4_1 (hN : 300 ≤ N) {M : PM} {n i : Nat} {x : Int32} (hi : i < 6) (h : AM M n R) (hn : n < 20) (rL : AH → Nat → Int32 → Int32 → Int32 → Option (Int32 × AH)) (rM : AH → Nat → Int32 → Int32 → Int32 → Int32 → Option (Int32 × AH)) {w : Int32} {M2 : PM} (c1 : rM (enc z (bgM M n 51)) (z + 126) (nI 1) (nI i) (nI 1) (x + nI 1) = some (w, enc z M2)) : fX12_from N rL rM (enc z M) (z + 126) (nI 4) (nI i) (nI 1) x = some (w, enc z M2) := by
  have b4 : M.1 139 (3 * 4 + 1) = nI 51 := h.2.2.2 13 (by omega)
  have a4 : M.1 138 4 = nI 1 := h.2.2.1 4 (by omega)
  have e0 := m_body (z := z) N (b := 51) h hn
  rw [fX12_from, zu5 _ _ (by omega)]
  rw [bX12_from_3]; simp only [lit]
  rw [G126_21b, A139mp (by omega), b4]
  simp (disch := omega) only [neq_f, ↓reduceIte]
  rw [G126_20b, A138b (by omega), a4, G126_21b, A139mp (by omega), b4, O126b, zc e0]
  simp (disch := omega) only [neq_f, neq_t, ↓reduceIte]
  rw [O126b, zc c1]
theorem ff5_1 (hN : 300 ≤ N) {M : PM} {n i : Nat} {x : Int32} (hi : i < 6) (h : AM M n R) (hn : n < 20) (rL : AH → Nat → Int32 → Int32 → Int32 → Option (Int32 × AH)) (rM : AH → Nat → Int32 → Int32 → Int32 → Int32 → Option (Int32 × AH)) {w : Int32} {M2 : PM} {n2 : Nat} (c1 : rL (enc z (bgM M n 11)) (z + 126) (nI i) (nI 0) x = some (w, enc z M2)) (h2 : AM M2 n2 R) : fX12_from N rL rM (enc z M) (z + 126) (nI 5) (nI i) (nI 1) x = some (w - nI (R (7 * i + 1)), enc z M2) := by
  have b5 : M.1 139 (3 * 5 + 1) = nI 0 := h.2.2.2 16 (by omega)
  have a5 : M.1 138 5 = nI 2 := h.2.2.1 5 (by omega)
  have b2 : M.1 139 (3 * 2 + 1) = nI 0 := h.2.2.2 7 (by omega)
  have a2 : M.1 138 2 = nI 0 := h.2.2.1 2 (by omega)
  have b0 : M.1 139 (3 * 0 + 1) = nI 11 := h.2.2.2 1 (by omega)
  have a0 : M.1 138 0 = -nI 1 := h.2.2.1 0 (by omega)
  have e0 := m_body (z := z) N (b := 11) h hn
  have e9 := m_v (z := z) N h2.2.1 hi
  rw [fX12_from, zu5 _ _ (by omega)]
  rw [bX12_from_3]; simp only [lit]
  rw [G126_21b, A139mp (by omega), b5]
  simp (disch := omega) only [neq_t, ↓reduceIte]
  rw [G126_20b, A138b (by omega), a5]
  rw [bX12_from_3]; simp only [lit]
  rw [G126_21b, A139mp (by omega), b2]
  simp (disch := omega) only [neq_t, ↓reduceIte]
  rw [G126_20b, A138b (by omega), a2]
  rw [bX12_from_3]; simp only [lit]
  rw [G126_21b, A139mp (by omega), b0]
  simp (disch := omega) only [neq_f, ↓reduceIte]
  rw [G126_20b, A138b (by omega), a0, G126_21b, A139mp (by omega), b0, O126b, zc e0]
  simp (disch := omega) only [neq_f, neq_t, ↓reduceIte]
  rw [O126b, zc c1, O126b, zc e9]
theorem ff6_1 (hN : 300 ≤ N) {M : PM} {n i : Nat} {x : Int32} (hi : i < 6) (h : AM M n R) (hn : n < 20) (rL : AH → Nat → Int32 → Int32 → Int32 → Option (Int32 × AH)) (rM : AH → Nat → Int32 → Int32 → Int32 → Int32 → Option (Int32 × AH)) {w w2 : Int32} {M2 M3 : PM} (c1 : rM (enc z (bgM M n 70)) (z + 126) (nI 3) (nI i) (nI 1) x = some (w, enc z M2)) (c2 : rM (enc z M2) (z + 126) (nI 3) (nI i) (nI 0) (nI 2) = some (w2, enc z M3)) : fX12_from N rL rM (enc z M) (z + 126) (nI 6) (nI i) (nI 1) x = some (w + w2, enc z M3) := by
  have b6 : M.1 139 (3 * 6 + 1) = nI 70 := h.2.2.2 19 (by omega)
  have a6 : M.1 138 6 = nI 3 := h.2.2.1 6 (by omega)
  have e0 := m_body (z := z) N (b := 70) h hn
  rw [fX12_from, zu5 _ _ (by omega)]
  rw [bX12_from_3]; simp only [lit]
  rw [G126_21b, A139mp (by omega), b6]
  simp (disch := omega) only [neq_f, ↓reduceIte]
  rw [G126_20b, A138b (by omega), a6, G126_21b, A139mp (by omega), b6, O126b, zc e0]
  simp (disch := omega) only [neq_f, neq_t, ↓reduceIte]
  rw [O126b, zc c1, O126b, zc c2]
theorem ff0_2 (hN : 300 ≤ N) {M : PM} {n i : Nat} {x : Int32} (hi : i < 6) (h : AM M n R) (hn : n < 20) (rL : AH → Nat → Int32 → Int32 → Int32 → Option (Int32 × AH)) (rM : AH → Nat → Int32 → Int32 → Int32 → Int32 → Option (Int32 × AH)) {w : Int32} {M2 : PM} (c1 : rL (enc z (bgM M n 12)) (z + 126) (nI i) (nI 1) x = some (w, enc z M2)) : fX12_from N rL rM (enc z M) (z + 126) (nI 0) (nI i) (nI 2) x = some (w * nI 2, enc z M2) := by
  have b0 : M.1 139 (3 * 0 + 2) = nI 12 := h.2.2.2 2 (by omega)
  have a0 : M.1 138 0 = -nI 1 := h.2.2.1 0 (by omega)
  have e0 := m_body (z := z) N (b := 12) h hn
  rw [fX12_from, zu5 _ _ (by omega)]
  rw [bX12_from_3]; simp only [lit]
  rw [G126_21b, A139mp (by omega), b0]
  simp (disch := omega) only [neq_f, ↓reduceIte]
  rw [G126_20b, A138b (by omega), a0, G126_21b, A139mp (by omega), b0, O126b, zc e0]
  simp (disch := omega) only [neq_f, neq_t, ↓reduceIte]
  rw [O126b, zc c1]
theorem ff1_2 (hN : 300 ≤ N) {M : PM} {n i : Nat} {x : Int32} (hi : i < 6) (h : AM M n R) (hn : n < 20) (rL : AH → Nat → Int32 → Int32 → Int32 → Option (Int32 × AH)) (rM : AH → Nat → Int32 → Int32 → Int32 → Int32 → Option (Int32 × AH)) {w : Int32} {M2 : PM} (c1 : rL (enc z (bgM M n 12)) (z + 126) (nI i) (nI 1) x = some (w, enc z M2)) : fX12_from N rL rM (enc z M) (z + 126) (nI 1) (nI i) (nI 2) x = some (w * nI 2, enc z M2) := by
  have b1 : M.1 139 (3 * 1 + 2) = nI 0 := h.2.2.2 5 (by omega)
  have a1 : M.1 138 1 = nI 0 := h.2.2.1 1 (by omega)
  have b0 : M.1 139 (3 * 0 + 2) = nI 12 := h.2.2.2 2 (by omega)
  have a0 : M.1 138 0 = -nI 1 := h.2.2.1 0 (by omega)
  have e0 := m_body (z := z) N (b := 12) h hn
  rw [fX12_from, zu5 _ _ (by omega)]
  rw [bX12_from_3]; simp only [lit]
  rw [G126_21b, A139mp (by omega), b1]
  simp (disch := omega) only [neq_t, ↓reduceIte]
  rw [G126_20b, A138b (by omega), a1]
  rw [bX12_from_3]; simp only [lit]
  rw [G126_21b, A139mp (by omega), b0]
  simp (disch := omega) only [neq_f, ↓reduceIte]
  rw [G126_20b, A138b (by omega), a0, G126_21b, A139mp (by omega), b0, O126b, zc e0]
  simp (disch := omega) only [neq_f, neq_t, ↓reduceIte]
  rw [O126b, zc c1]
theorem ff2_2 (hN : 300 ≤ N) {M : PM} {n i : Nat} {x : Int32} (hi : i < 6) (h : AM M n R) (hn : n < 20) (rL : AH → Nat → Int32 → Int32 → Int32 → Option (Int32 × AH)) (rM : AH → Nat → Int32 → Int32 → Int32 → Int32 → Option (Int32 × AH)) {w : Int32} {M2 : PM} (c1 : rL (enc z (bgM M n 12)) (z + 126) (nI i) (nI 1) x = some (w, enc z M2)) : fX12_from N rL rM (enc z M) (z + 126) (nI 2) (nI i) (nI 2) x = some (w * nI 2, enc z M2) := by
  have b2 : M.1 139 (3 * 2 + 2) = nI 0 := h.2.2.2 8 (by omega)
  have a2 : M.1 138 2 = nI 0 := h.2.2.1 2 (by omega)
  have b0 : M.1 139 (3 * 0 + 2) = nI 12 := h.2.2.2 2 (by omega)
  have a0 : M.1 138 0 = -nI 1 := h.2.2.1 0 (by omega)
  have e0 := m_body (z := z) N (b := 12) h hn
  rw [fX12_from, zu5 _ _ (by omega)]
  rw [bX12_from_3]; simp only [lit]
  rw [G126_21b, A139mp (by omega), b2]
  simp (disch := omega) only [neq_t, ↓reduceIte]
  rw [G126_20b, A138b (by omega), a2]
  rw [bX12_from_3]; simp only [lit]
  rw [G126_21b, A139mp (by omega), b0]
  simp (disch := omega) only [neq_f, ↓reduceIte]
  rw [G126_20b, A138b (by omega), a0, G126_21b, A139mp (by omega), b0, O126b, zc e0]
  simp (disch := omega) only [neq_f, neq_t, ↓reduceIte]
  rw [O126b, zc c1]
theorem ff3_2 (hN : 300 ≤ N) {M : PM} {n i : Nat} {x : Int32} (hi : i < 6) (h : AM M n R) (hn : n < 20) (rL : AH → Nat → Int32 → Int32 → Int32 → Option (Int32 × AH)) (rM : AH → Nat → Int32 → Int32 → Int32 → Int32 → Option (Int32 × AH)) {w w2 : Int32} {M2 M3 : PM} (c1 : rM (enc z (bgM M n 40)) (z + 126) (nI 0) (nI i) (nI 2) x = some (w, enc z M2)) (c2 : rL (enc z M2) (z + 126) (nI i) (nI 1) (nI 1) = some (w2, enc z M3)) : fX12_from N rL rM (enc z M) (z + 126) (nI 3) (nI i) (nI 2) x = some (w + w2, enc z M3) := by
  have b3 : M.1 139 (3 * 3 + 2) = nI 40 := h.2.2.2 11 (by omega)
  have a3 : M.1 138 3 = nI 0 := h.2.2.1 3 (by omega)
  have e0 := m_body (z := z) N (b := 40) h hn
  rw [fX12_from, zu5 _ _ (by omega)]
  rw [bX12_from_3]; simp only [lit]
  rw [G126_21b, A139mp (by omega), b3]
  simp (disch := omega) only [neq_f, ↓reduceIte]
  rw [G126_20b, A138b (by omega), a3, G126_21b, A139mp (by omega), b3, O126b, zc e0]
  simp (disch := omega) only [neq_f, neq_t, ↓reduceIte]
  rw [O126b, zc c1, O126b, zc c2]
theorem ff4_2 (hN : 300 ≤ N) {M : PM} {n i : Nat} {x : Int32} (hi : i < 6) (h : AM M n R) (hn : n < 20) (rL : AH → Nat → Int32 → Int32 → Int32 → Option (Int32 × AH)) (rM : AH → Nat → Int32 → Int32 → Int32 → Int32 → Option (Int32 × AH)) {w : Int32} {M2 : PM} (c1 : rL (enc z (bgM M n 12)) (z + 126) (nI i) (nI 1) x = some (w, enc z M2)) : fX12_from N rL rM (enc z M) (z + 126) (nI 4) (nI i) (nI 2) x = some (w * nI 2, enc z M2) := by
  have b4 : M.1 139 (3 * 4 + 2) = nI 0 := h.2.2.2 14 (by omega)
  have a4 : M.1 138 4 = nI 1 := h.2.2.1 4 (by omega)
  have b1 : M.1 139 (3 * 1 + 2) = nI 0 := h.2.2.2 5 (by omega)
  have a1 : M.1 138 1 = nI 0 := h.2.2.1 1 (by omega)
  have b0 : M.1 139 (3 * 0 + 2) = nI 12 := h.2.2.2 2 (by omega)
  have a0 : M.1 138 0 = -nI 1 := h.2.2.1 0 (by omega)
  have e0 := m_body (z := z) N (b := 12) h hn
  rw [fX12_from, zu5 _ _ (by omega)]
  rw [bX12_from_3]; simp only [lit]
  rw [G126_21b, A139mp (by omega), b4]
  simp (disch := omega) only [neq_t, ↓reduceIte]
  rw [G126_20b, A138b (by omega), a4]
  rw [bX12_from_3]; simp only [lit]
  rw [G126_21b, A139mp (by omega), b1]
  simp (disch := omega) only [neq_t, ↓reduceIte]
  rw [G126_20b, A138b (by omega), a1]
  rw [bX12_from_3]; simp only [lit]
  rw [G126_21b, A139mp (by omega), b0]
  simp (disch := omega) only [neq_f, ↓reduceIte]
  rw [G126_20b, A138b (by omega), a0, G126_21b, A139mp (by omega), b0, O126b, zc e0]
  simp (disch := omega) only [neq_f, neq_t, ↓reduceIte]
  rw [O126b, zc c1]
theorem ff5_2 (hN : 300 ≤ N) {M : PM} {n i : Nat} {x : Int32} (hi : i < 6) (h : AM M n R) (hn : n < 20) (rL : AH → Nat → Int32 → Int32 → Int32 → Option (Int32 × AH)) (rM : AH → Nat → Int32 → Int32 → Int32 → Int32 → Option (Int32 × AH)) {w : Int32} {M2 : PM} (c1 : rM (enc z (bgM M n 60)) (z + 126) (nI 2) (nI i) (nI 2) (x - nI i) = some (w, enc z M2)) : fX12_from N rL rM (enc z M) (z + 126) (nI 5) (nI i) (nI 2) x = some (w, enc z M2) := by
  have b5 : M.1 139 (3 * 5 + 2) = nI 60 := h.2.2.2 17 (by omega)
  have a5 : M.1 138 5 = nI 2 := h.2.2.1 5 (by omega)
  have e0 := m_body (z := z) N (b := 60) h hn
  rw [fX12_from, zu5 _ _ (by omega)]
  rw [bX12_from_3]; simp only [lit]
  rw [G126_21b, A139mp (by omega), b5]
  simp (disch := omega) only [neq_f, ↓reduceIte]
  rw [G126_20b, A138b (by omega), a5, G126_21b, A139mp (by omega), b5, O126b, zc e0]
  simp (disch := omega) only [neq_f, neq_t, ↓reduceIte]
  rw [O126b, zc c1]
theorem ff6_2 (hN : 300 ≤ N) {M : PM} {n i : Nat} {x : Int32} (hi : i < 6) (h : AM M n R) (hn : n < 20) (rL : AH → Nat → Int32 → Int32 → Int32 → Option (Int32 × AH)) (rM : AH → Nat → Int32 → Int32 → Int32 → Int32 → Option (Int32 × AH)) {w w2 : Int32} {M2 M3 : PM} (c1 : rM (enc z (bgM M n 40)) (z + 126) (nI 0) (nI i) (nI 2) x = some (w, enc z M2)) (c2 : rL (enc z M2) (z + 126) (nI i) (nI 1) (nI 1) = some (w2, enc z M3)) : fX12_from N rL rM (enc z M) (z + 126) (nI 6) (nI i) (nI 2) x = some (w + w2, enc z M3) := by
  have b6 : M.1 139 (3 * 6 + 2) = nI 0 := h.2.2.2 20 (by omega)
  have a6 : M.1 138 6 = nI 3 := h.2.2.1 6 (by omega)
  have b3 : M.1 139 (3 * 3 + 2) = nI 40 := h.2.2.2 11 (by omega)
  have a3 : M.1 138 3 = nI 0 := h.2.2.1 3 (by omega)
  have e0 := m_body (z := z) N (b := 40) h hn
  rw [fX12_from, zu5 _ _ (by omega)]
  rw [bX12_from_3]; simp only [lit]
  rw [G126_21b, A139mp (by omega), b6]
  simp (disch := omega) only [neq_t, ↓reduceIte]
  rw [G126_20b, A138b (by omega), a6]
  rw [bX12_from_3]; simp only [lit]
  rw [G126_21b, A139mp (by omega), b3]
  simp (disch := omega) only [neq_f, ↓reduceIte]
  rw [G126_20b, A138b (by omega), a3, G126_21b, A139mp (by omega), b3, O126b, zc e0]
  simp (disch := omega) only [neq_f, neq_t, ↓reduceIte]
  rw [O126b, zc c1, O126b, zc c2]
theorem m_allQ {M : PM} {n i : Nat} (hi : i < 6) (h : AM M n R) {rM : AH → Nat → Int32 → Int32 → Int32 → Int32 → Option (Int32 × AH)} {y x w : Int32} {M2 : PM} (c1 : rM (enc z M) (z + 126) (nI (R (7 * i))) (nI i) y x = some (w, enc z M2)) : fX12_all N rM (enc z M) (z + 126) (nI i) y x = some (w, enc z M2) := by
  have e1 := m_kind (z := z) N h.2.1 hi
  rw [fX12_all]; simp (disch := omega) only [↓znm_, ↓reduceIte, rn0, rn1, rbI, nle_t, nle_f, nlt_t, nlt_f, neq_t, neq_f, x_add, x_mul, x_sub, x_div, ↓x_rem, x_remN, setI_eq, setI_ne, setI_nk, setI_2, bn0, bn1, reduceCtorEq, ↓O126b, ↓G126_0b, ↓G126_1b, ↓G126_2b, ↓G126_3b, ↓P126_3b, ↓G126_4b, ↓G126_5b, ↓P126_5b, ↓G126_6b, ↓G126_7b, ↓G126_8b, ↓P126_8b, ↓G126_9b, ↓G126_10b, ↓P126_10b, ↓G126_11b, ↓P126_11b, ↓G126_12b, ↓P126_12b, ↓G126_13b, ↓P126_13b, ↓G126_14b, ↓P126_14b, ↓G126_15b, ↓P126_15b, ↓G126_16b, ↓G126_17b, ↓G126_18b, ↓G126_19b, ↓G126_20b, ↓G126_21b, ↓G126_22b, ↓G126_23b, ↓P126_23b, ↓G126_24b, ↓G126_25b, ↓G126_26b, ↓G126_27b, ↓A127b, ↓A127m, ↓A127p, ↓A127mp, ↓A127pm, ↓A127pmp, ↓A127mpp, ↓A127pp, ↓S127b, ↓S127m, ↓S127p, ↓S127mp, ↓S127pm, ↓S127pmp, ↓S127mpp, ↓S127pp, ↓N127b, ↓A128b, ↓S128b, ↓N128b, ↓A129b, ↓S129b, ↓N129b, ↓A130b, ↓S130b, ↓N130b, ↓A131b, ↓A131m, ↓A131p, ↓A131mp, ↓A131pm, ↓A131pmp, ↓A131mpp, ↓A131pp, ↓S131b, ↓S131m, ↓S131p, ↓S131mp, ↓S131pm, ↓S131pmp, ↓S131mpp, ↓S131pp, ↓N131b, ↓A132b, ↓S132b, ↓N132b, ↓A133b, ↓S133b, ↓N133b, ↓A134b, ↓S134b, ↓N134b, ↓A135b, ↓S135b, ↓N135b, ↓A136b, ↓S136b, ↓N136b, ↓A137b, ↓A137m, ↓A137p, ↓A137mp, ↓A137pm, ↓A137pmp, ↓A137mpp, ↓A137pp, ↓S137b, ↓S137m, ↓S137p, ↓S137mp, ↓S137pm, ↓S137pmp, ↓S137mpp, ↓S137pp, ↓N137b, ↓A138b, ↓S138b, ↓N138b, ↓A139b, ↓A139m, ↓A139p, ↓A139mp, ↓A139pm, ↓A139pmp, ↓A139mpp, ↓A139pp, ↓S139b, ↓S139m, ↓S139p, ↓S139mp, ↓S139pm, ↓S139pmp, ↓S139mpp, ↓S139pp, ↓N139b, ↓A140b, ↓S140b, ↓N140b, ↓A141b, ↓S141b, ↓N141b, ↓A142b, ↓S142b, ↓N142b, ↓A143b, ↓A143m, ↓A143p, ↓A143mp, ↓A143pm, ↓A143pmp, ↓A143mpp, ↓A143pp, ↓S143b, ↓S143m, ↓S143p, ↓S143mp, ↓S143pm, ↓S143pmp, ↓S143mpp, ↓S143pp, ↓A144b, ↓S144b, A127b, S127b, A128b, S128b, A129b, S129b, A130b, S130b, A131b, S131b, A132b, S132b, A133b, S133b, A134b, S134b, A135b, S135b, A136b, S136b, A137b, S137b, A138b, S138b, A139b, S139b, A140b, S140b, A141b, S141b, A142b, S142b, A143b, S143b, A144b, S144b, ↓P126_3n, ↓P126_12n, ↓P126_12o, ↓zc e1, ↓zc c1]
theorem gf_s {d : Nat} : gX12_from N (d + 1) = fX12_from N (fX12_all N (gX12_from N d)) (gX12_from N d) := rfl
/-- the model dines -/
theorem m_d1 (hN : 300 ≤ N) {M : PM} {n i d k : Nat} {x : Int32} (hi : i < 6) (h : AM M n R) (hn : n < 20) (hk : k = 0 ∨ k = 1 ∨ k = 3) : gX12_from N (d + 1) (enc z M) (z + 126) (nI k) (nI i) (nI 0) x = some (x + nI i, enc z (bgM M n 10)) := by
  rw [gf_s]
  rcases hk with rfl | rfl | rfl
  · exact ff0_0 N hN hi h hn _ _
  · exact ff1_0 N hN hi h hn _ _
  · exact ff3_0 N hN hi h hn _ _
theorem m_d (hN : 300 ≤ N) {M : PM} {n i d k : Nat} {x : Int32} (hi : i < 6) (h : AM M n R) (hn : n < 19) (hk : k < 7) : gX12_from N (d + 2) (enc z M) (z + 126) (nI k) (nI i) (nI 0) x = some (dV k i (R (7 * i + 1)) x, enc z (apM M n (dL k))) := by
  rcases (show k = 0 ∨ k = 1 ∨ k = 2 ∨ k = 3 ∨ k = 4 ∨ k = 5 ∨ k = 6 by omega) with rfl | rfl | rfl | rfl | rfl | rfl | rfl
  · exact m_d1 N hN hi h (by omega) (by omega)
  · exact m_d1 N hN hi h (by omega) (by omega)
  · exact ff2_0 N hN hi h (by omega) _ (gX12_from N (d + 1)) (m_d1 N hN hi (AM_bg h) (by omega) (by omega))
  · exact m_d1 N hN hi h (by omega) (by omega)
  · exact ff4_0 N hN hi h (by omega) _ (gX12_from N (d + 1)) (m_d1 N hN hi (AM_bg h) (by omega) (by omega))
  · exact ff5_0 N hN hi h (by omega) _ (gX12_from N (d + 1)) (m_d1 N hN hi (AM_bg h) (by omega) (by omega))
  · exact ff6_0 N hN hi h (by omega) _ (gX12_from N (d + 1)) (m_d1 N hN hi (AM_bg h) (by omega) (by omega)) (AM_bg (AM_bg h))
/-- the model nods -/
theorem m_n1 (hN : 300 ≤ N) {M : PM} {n i d s : Nat} {x : Int32} (hi : i < 6) (hk : R (7 * i) < 7) (h : AM M n R) (hn : n < 18) (hs : s = 0 ∨ s = 2 ∨ s = 3 ∨ s = 5) : gX12_from N (d + 3) (enc z M) (z + 126) (nI s) (nI i) (nI 1) x = some (dV (R (7 * i)) i (R (7 * i + 1)) x - nI (R (7 * i + 1)), enc z (apM M n (11 :: dL (R (7 * i))))) := by
  have c1 := m_allQ (z := z) N hi (AM_bg (b := 11) h) (m_d (d := d) (x := x) N hN hi (AM_bg (b := 11) h) (by omega) hk)
  have h2 := AM_ap (AM_bg (b := 11) h) (dL (R (7 * i)))
  rw [gf_s]
  rcases hs with rfl | rfl | rfl | rfl
  · exact ff0_1 N hN hi h (by omega) (fX12_all N (gX12_from N (d + 2))) _ c1 h2
  · exact ff2_1 N hN hi h (by omega) (fX12_all N (gX12_from N (d + 2))) _ c1 h2
  · exact ff3_1 N hN hi h (by omega) (fX12_all N (gX12_from N (d + 2))) _ c1 h2
  · exact ff5_1 N hN hi h (by omega) (fX12_all N (gX12_from N (d + 2))) _ c1 h2
theorem m_n2 (hN : 300 ≤ N) {M : PM} {n i d : Nat} {x : Int32} (hi : i < 6) (hk : R (7 * i) < 7) (h : AM M n R) (hn : n < 17) : gX12_from N (d + 4) (enc z M) (z + 126) (nI 1) (nI i) (nI 1) x = some ((dV (R (7 * i)) i (R (7 * i + 1)) x - nI (R (7 * i + 1))) ^^^ nI 6, enc z (apM M n (20 :: 11 :: dL (R (7 * i))))) :=
  ff1_1 N hN hi h (by omega) _ (gX12_from N (d + 3)) (m_n1 N hN hi hk (AM_bg h) (by omega) (by omega))
theorem m_n (hN : 300 ≤ N) {M : PM} {n i d s : Nat} {x : Int32} (hi : i < 6) (hk : R (7 * i) < 7) (h : AM M n R) (hn : n < 15) (hs : s < 7) : gX12_from N (d + 5) (enc z M) (z + 126) (nI s) (nI i) (nI 1) x = some (nV s (R (7 * i)) i (R (7 * i + 1)) x, enc z (apM M n (nL_ s (R (7 * i))))) := by
  rcases (show s = 0 ∨ s = 1 ∨ s = 2 ∨ s = 3 ∨ s = 4 ∨ s = 5 ∨ s = 6 by omega) with rfl | rfl | rfl | rfl | rfl | rfl | rfl
  · exact m_n1 N hN hi hk h (by omega) (by omega)
  · exact m_n2 N hN hi hk h (by omega)
  · exact m_n1 N hN hi hk h (by omega) (by omega)
  · exact m_n1 N hN hi hk h (by omega) (by omega)
  · exact ff4_1 N hN hi h (by omega) _ (gX12_from N (d + 4)) (m_n2 N hN hi hk (AM_bg h) (by omega))
  · exact m_n1 N hN hi hk h (by omega) (by omega)
  · have hl := dL_len (R (7 * i)) hk
    have h1 := AM_ap (AM_bg (b := 70) h) (11 :: dL (R (7 * i)))
    have e := apM_app (70 :: 11 :: dL (R (7 * i))) [10] M n
    have c2 := m_d1 (z := z) (d := d + 3) (k := 3) (x := nI 2) N hN hi h1 (by show n + 1 + ((dL (R (7 * i))).length + 1) < 20; omega) (by omega)
    have r := ff6_1 (x := x) N hN hi h (by omega) (fX12_all N (gX12_from N (d + 4))) (gX12_from N (d + 4)) (m_n1 (x := x) N hN hi hk (AM_bg h) (by omega) (by omega)) c2
    rw [gf_s, r]
    show some (_, enc z (bgM (apM M n (70 :: 11 :: dL (R (7 * i)))) (n + 1 + (11 :: dL (R (7 * i))).length) 10)) = some (_, enc z (apM M n ((70 :: 11 :: dL (R (7 * i))) ++ [10])))
    rw [← e, show n + 1 + (11 :: dL (R (7 * i))).length = n + (70 :: 11 :: dL (R (7 * i))).length by show n + 1 + _ = n + (_ + 1); omega]
    rfl
theorem m_t1 (hN : 300 ≤ N) {M : PM} {n i d s : Nat} {x : Int32} (hi : i < 6) (hk : R (7 * i) < 7) (h : AM M n R) (hn : n < 14) (hs : s = 0 ∨ s = 1 ∨ s = 2 ∨ s = 4) : gX12_from N (d + 6) (enc z M) (z + 126) (nI s) (nI i) (nI 2) x = some (nV (R (7 * i)) (R (7 * i)) i (R (7 * i + 1)) x * nI 2, enc z (apM M n (12 :: nL_ (R (7 * i)) (R (7 * i))))) := by
  have c1 := m_allQ (z := z) N hi (AM_bg (b := 12) h) (m_n (d := d) (x := x) N hN hi hk (AM_bg (b := 12) h) (by omega) hk)
  rw [gf_s]
  rcases hs with rfl | rfl | rfl | rfl
  · exact ff0_2 N hN hi h (by omega) (fX12_all N (gX12_from N (d + 5))) _ c1
  · exact ff1_2 N hN hi h (by omega) (fX12_all N (gX12_from N (d + 5))) _ c1
  · exact ff2_2 N hN hi h (by omega) (fX12_all N (gX12_from N (d + 5))) _ c1
  · exact ff4_2 N hN hi h (by omega) (fX12_all N (gX12_from N (d + 5))) _ c1
theorem m_t (hN : 300 ≤ N) {M : PM} {i d s : Nat} {x : Int32} (hi : i < 6) (hk : R (7 * i) < 7) (h : AM M 0 R) (hs : s < 7) : gX12_from N (d + 7) (enc z M) (z + 126) (nI s) (nI i) (nI 2) x = some (tV s (R (7 * i)) i (R (7 * i + 1)) x, enc z (apM M 0 (tL_ s (R (7 * i))))) := by
  have hl := nL_len (R (7 * i)) hk (R (7 * i)) hk
  have k40 : (s = 3 ∨ s = 6) → gX12_from N (d + 7) (enc z M) (z + 126) (nI s) (nI i) (nI 2) x = some (tV s (R (7 * i)) i (R (7 * i + 1)) x, enc z (apM M 0 (tL_ s (R (7 * i))))) := by
    intro hs'
    have c1 := m_t1 (z := z) (d := d) (s := 0) (x := x) N hN hi hk (AM_bg (b := 40) h) (by omega) (by omega)
    have h1 := AM_ap (AM_bg (b := 40) h) (12 :: nL_ (R (7 * i)) (R (7 * i)))
    have c2 := m_allQ (z := z) N hi h1 (m_n (d := d + 1) (x := nI 1) N hN hi hk h1 (by show 0 + 1 + ((nL_ (R (7 * i)) (R (7 * i))).length + 1) < 15; omega) hk)
    have e := apM_app (40 :: 12 :: nL_ (R (7 * i)) (R (7 * i))) (nL_ (R (7 * i)) (R (7 * i))) M 0
    have hlen : 0 + 1 + (12 :: nL_ (R (7 * i)) (R (7 * i))).length = 0 + (40 :: 12 :: nL_ (R (7 * i)) (R (7 * i))).length := by show 0 + 1 + _ = 0 + (_ + 1); omega
    have hv : tV s (R (7 * i)) i (R (7 * i + 1)) x = nV (R (7 * i)) (R (7 * i)) i (R (7 * i + 1)) x * nI 2 + nV (R (7 * i)) (R (7 * i)) i (R (7 * i + 1)) (nI 1) := by unfold tV; rw [if_pos hs']
    have hL : tL_ s (R (7 * i)) = (40 :: 12 :: nL_ (R (7 * i)) (R (7 * i))) ++ nL_ (R (7 * i)) (R (7 * i)) := by unfold tL_; rw [if_pos hs']
    rw [hv, hL, ← e, ← hlen, gf_s]
    rcases hs' with rfl | rfl
    · exact ff3_2 N hN hi h (by omega) (fX12_all N (gX12_from N (d + 6))) (gX12_from N (d + 6)) c1 c2
    · exact ff6_2 N hN hi h (by omega) (fX12_all N (gX12_from N (d + 6))) (gX12_from N (d + 6)) c1 c2
  rcases (show s = 0 ∨ s = 1 ∨ s = 2 ∨ s = 3 ∨ s = 4 ∨ s = 5 ∨ s = 6 by omega) with rfl | rfl | rfl | rfl | rfl | rfl | rfl
  · exact m_t1 N hN hi hk h (by omega) (by omega)
  · exact m_t1 N hN hi hk h (by omega) (by omega)
  · exact m_t1 N hN hi hk h (by omega) (by omega)
  · exact k40 (by omega)
  · exact m_t1 N hN hi hk h (by omega) (by omega)
  · exact ff5_2 N hN hi h (by omega) _ (gX12_from N (d + 6)) (m_t1 N hN hi hk (AM_bg h) (by omega) (by omega))
  · exact k40 (by omega)
end
