def cpR (M : PM) (a b n : Nat) : PM := cpyI M a b 0 0 n
theorem cpR_nk {M : PM} {a b n c j : Nat} (h : c ≠ b) : (cpR M a b n).1 c j = M.1 c j := by
  show (if c = b then _ else M.1 c j) = _
  rw [if_neg h]
theorem cpR_eq {M : PM} {a b n j : Nat} (h : j < n) : (cpR M a b n).1 b j = M.1 a j := by
  show (if b = b then va_cpy (M.1 a) (M.1 b) 0 0 n j else M.1 b j) = _
  rw [if_pos rfl]; unfold va_cpy; rw [if_pos (by omega), Nat.zero_add, Nat.sub_zero]
def tabM (M : PM) (a b n : Nat) : Nat → PM
  | 0 => M
  | i + 1 => cpR (tabM M a b n i) (a + i) (b + i) n
theorem tab_nk {M : PM} {a b n c j : Nat} : ∀ k, (c < b ∨ b + k ≤ c) → (tabM M a b n k).1 c j = M.1 c j := by
  intro k
  induction k with
  | zero => intro _; rfl
  | succ k ih => intro h; rw [tabM, cpR_nk (by omega)]; exact ih (by omega)
theorem tab_eq {M : PM} {a b n r j : Nat} (hj : j < n) : ∀ k, r < k → (a + k ≤ b ∨ b + k ≤ a) → (tabM M a b n k).1 (b + r) j = M.1 (a + r) j := by
  intro k
  induction k with
  | zero => intro h; omega
  | succ k ih =>
    intro hr hd
    rw [tabM]
    by_cases e : r = k
    · subst e; rw [cpR_eq hj]; exact tab_nk r (by omega)
    · rw [cpR_nk (by omega)]; exact ih (by omega) (by omega)
theorem tab_2 {M : PM} {a b n : Nat} : ∀ k, (tabM M a b n k).2 = M.2 := by
  intro k
  induction k with
  | zero => rfl
  | succ k ih => exact ih
def fld (b a f : Nat) (M : PM) : PM := setI M b f (M.1 a f)
def rwM (b a k n : Nat) (M : PM) : PM := cpR M (a + k) (b + k) n
def tbM (b a k m n : Nat) (M : PM) : PM := tabM M (a + k) (b + k) n m
theorem fld_nk {b a f c j : Nat} {M : PM} (h : c ≠ b) : (fld b a f M).1 c j = M.1 c j := setI_nk h
theorem fld_ne {b a f c j : Nat} {M : PM} (h : j ≠ f) : (fld b a f M).1 c j = M.1 c j := setI_ne h
theorem fld_eq {b a f : Nat} {M : PM} : (fld b a f M).1 b f = M.1 a f := setI_eq
theorem rwM_nk {b a k n c j : Nat} {M : PM} (h : c ≠ b + k) : (rwM b a k n M).1 c j = M.1 c j := cpR_nk h
theorem rwM_eq {b a k n j : Nat} {M : PM} (h : j < n) : (rwM b a k n M).1 (b + k) j = M.1 (a + k) j := cpR_eq h
theorem tbM_nk {b a k m n c j : Nat} {M : PM} (h : c < b + k ∨ b + k + m ≤ c) : (tbM b a k m n M).1 c j = M.1 c j := tab_nk m h
theorem tbM_eq {b a k m n r j : Nat} {M : PM} (hr : r < m) (hj : j < n) (hd : a + k + m ≤ b + k ∨ b + k + m ≤ a + k) : (tbM b a k m n M).1 (b + k + r) j = M.1 (a + k + r) j := tab_eq hj m hr hd
def cpH (b a : Nat) (M : PM) : PM := tbM b a 27 8 2 (fld b a 18 (tbM b a 16 10 2 (fld b a 16 (tbM b a 10 5 4 (fld b a 14 (fld b a 13 (fld b a 12 (fld b a 11 (rwM b a 8 5 (fld b a 9 (rwM b a 7 8 (rwM b a 6 8 (rwM b a 5 8 (fld b a 5 (rwM b a 4 24 (rwM b a 3 6 (rwM b a 2 6 (rwM b a 1 6 (fld b a 0 M)))))))))))))))))))
theorem cpH_2 {b a : Nat} {M : PM} : (cpH b a M).2 = M.2 := by
  unfold cpH tbM
  rw [tab_2]
  show (tabM _ _ _ _ _).2 = _
  rw [tab_2]
  show (tabM _ _ _ _ _).2 = _
  rw [tab_2]
  rfl
theorem cpH_nk {b a c j : Nat} {M : PM} (h : c < b ∨ b + 35 ≤ c) : (cpH b a M).1 c j = M.1 c j := by
  unfold cpH
  simp (disch := omega) only [fld_nk, rwM_nk, tbM_nk]
theorem cpH_f0 {b a : Nat} {M : PM} (hd : a + 35 ≤ b ∨ b + 35 ≤ a) : (cpH b a M).1 b 0 = M.1 a 0 := by
  unfold cpH
  simp (disch := omega) only [fld_nk, fld_ne, fld_eq, rwM_nk, rwM_eq, tbM_nk, tbM_eq]
theorem cpH_f5 {b a : Nat} {M : PM} (hd : a + 35 ≤ b ∨ b + 35 ≤ a) : (cpH b a M).1 b 5 = M.1 a 5 := by
  unfold cpH
  simp (disch := omega) only [fld_nk, fld_ne, fld_eq, rwM_nk, rwM_eq, tbM_nk, tbM_eq]
theorem cpH_f9 {b a : Nat} {M : PM} (hd : a + 35 ≤ b ∨ b + 35 ≤ a) : (cpH b a M).1 b 9 = M.1 a 9 := by
  unfold cpH
  simp (disch := omega) only [fld_nk, fld_ne, fld_eq, rwM_nk, rwM_eq, tbM_nk, tbM_eq]
theorem cpH_f11 {b a : Nat} {M : PM} (hd : a + 35 ≤ b ∨ b + 35 ≤ a) : (cpH b a M).1 b 11 = M.1 a 11 := by
  unfold cpH
  simp (disch := omega) only [fld_nk, fld_ne, fld_eq, rwM_nk, rwM_eq, tbM_nk, tbM_eq]
theorem cpH_f12 {b a : Nat} {M : PM} (hd : a + 35 ≤ b ∨ b + 35 ≤ a) : (cpH b a M).1 b 12 = M.1 a 12 := by
  unfold cpH
  simp (disch := omega) only [fld_nk, fld_ne, fld_eq, rwM_nk, rwM_eq, tbM_nk, tbM_eq]
theorem cpH_f13 {b a : Nat} {M : PM} (hd : a + 35 ≤ b ∨ b + 35 ≤ a) : (cpH b a M).1 b 13 = M.1 a 13 := by
  unfold cpH
  simp (disch := omega) only [fld_nk, fld_ne, fld_eq, rwM_nk, rwM_eq, tbM_nk, tbM_eq]
theorem cpH_f14 {b a : Nat} {M : PM} (hd : a + 35 ≤ b ∨ b + 35 ≤ a) : (cpH b a M).1 b 14 = M.1 a 14 := by
  unfold cpH
  simp (disch := omega) only [fld_nk, fld_ne, fld_eq, rwM_nk, rwM_eq, tbM_nk, tbM_eq]
theorem cpH_f16 {b a : Nat} {M : PM} (hd : a + 35 ≤ b ∨ b + 35 ≤ a) : (cpH b a M).1 b 16 = M.1 a 16 := by
  unfold cpH
  simp (disch := omega) only [fld_nk, fld_ne, fld_eq, rwM_nk, rwM_eq, tbM_nk, tbM_eq]
theorem cpH_f18 {b a : Nat} {M : PM} (hd : a + 35 ≤ b ∨ b + 35 ≤ a) : (cpH b a M).1 b 18 = M.1 a 18 := by
  unfold cpH
  simp (disch := omega) only [fld_nk, fld_ne, fld_eq, rwM_nk, rwM_eq, tbM_nk, tbM_eq]
theorem cpH_r1 {b a j : Nat} {M : PM} (hd : a + 35 ≤ b ∨ b + 35 ≤ a) (hj : j < 6) : (cpH b a M).1 (b + 1) j = M.1 (a + 1) j := by
  unfold cpH
  simp (disch := omega) only [fld_nk, fld_ne, fld_eq, rwM_nk, rwM_eq, tbM_nk, tbM_eq]
theorem cpH_r2 {b a j : Nat} {M : PM} (hd : a + 35 ≤ b ∨ b + 35 ≤ a) (hj : j < 6) : (cpH b a M).1 (b + 2) j = M.1 (a + 2) j := by
  unfold cpH
  simp (disch := omega) only [fld_nk, fld_ne, fld_eq, rwM_nk, rwM_eq, tbM_nk, tbM_eq]
theorem cpH_r3 {b a j : Nat} {M : PM} (hd : a + 35 ≤ b ∨ b + 35 ≤ a) (hj : j < 6) : (cpH b a M).1 (b + 3) j = M.1 (a + 3) j := by
  unfold cpH
  simp (disch := omega) only [fld_nk, fld_ne, fld_eq, rwM_nk, rwM_eq, tbM_nk, tbM_eq]
theorem cpH_r4 {b a j : Nat} {M : PM} (hd : a + 35 ≤ b ∨ b + 35 ≤ a) (hj : j < 24) : (cpH b a M).1 (b + 4) j = M.1 (a + 4) j := by
  unfold cpH
  simp (disch := omega) only [fld_nk, fld_ne, fld_eq, rwM_nk, rwM_eq, tbM_nk, tbM_eq]
theorem cpH_r5 {b a j : Nat} {M : PM} (hd : a + 35 ≤ b ∨ b + 35 ≤ a) (hj : j < 8) : (cpH b a M).1 (b + 5) j = M.1 (a + 5) j := by
  unfold cpH
  simp (disch := omega) only [fld_nk, fld_ne, fld_eq, rwM_nk, rwM_eq, tbM_nk, tbM_eq]
theorem cpH_r6 {b a j : Nat} {M : PM} (hd : a + 35 ≤ b ∨ b + 35 ≤ a) (hj : j < 8) : (cpH b a M).1 (b + 6) j = M.1 (a + 6) j := by
  unfold cpH
  simp (disch := omega) only [fld_nk, fld_ne, fld_eq, rwM_nk, rwM_eq, tbM_nk, tbM_eq]
theorem cpH_r7 {b a j : Nat} {M : PM} (hd : a + 35 ≤ b ∨ b + 35 ≤ a) (hj : j < 8) : (cpH b a M).1 (b + 7) j = M.1 (a + 7) j := by
  unfold cpH
  simp (disch := omega) only [fld_nk, fld_ne, fld_eq, rwM_nk, rwM_eq, tbM_nk, tbM_eq]
theorem cpH_r8 {b a j : Nat} {M : PM} (hd : a + 35 ≤ b ∨ b + 35 ≤ a) (hj : j < 5) : (cpH b a M).1 (b + 8) j = M.1 (a + 8) j := by
  unfold cpH
  simp (disch := omega) only [fld_nk, fld_ne, fld_eq, rwM_nk, rwM_eq, tbM_nk, tbM_eq]
theorem cpH_t10 {b a r j : Nat} {M : PM} (hd : a + 35 ≤ b ∨ b + 35 ≤ a) (hr : r < 5) (hj : j < 4) : (cpH b a M).1 (b + 10 + r) j = M.1 (a + 10 + r) j := by
  unfold cpH
  simp (disch := omega) only [fld_nk, fld_ne, fld_eq, rwM_nk, rwM_eq, tbM_nk, tbM_eq]
theorem cpH_t16 {b a r j : Nat} {M : PM} (hd : a + 35 ≤ b ∨ b + 35 ≤ a) (hr : r < 10) (hj : j < 2) : (cpH b a M).1 (b + 16 + r) j = M.1 (a + 16 + r) j := by
  unfold cpH
  simp (disch := omega) only [fld_nk, fld_ne, fld_eq, rwM_nk, rwM_eq, tbM_nk, tbM_eq]
theorem cpH_t27 {b a r j : Nat} {M : PM} (hd : a + 35 ≤ b ∨ b + 35 ≤ a) (hr : r < 8) (hj : j < 2) : (cpH b a M).1 (b + 27 + r) j = M.1 (a + 27 + r) j := by
  unfold cpH
  simp (disch := omega) only [fld_nk, fld_ne, fld_eq, rwM_nk, rwM_eq, tbM_nk, tbM_eq]
theorem CR_cp {b a : Nat} {M : PM} {R : Nat → Nat} (hd : a + 35 ≤ b ∨ b + 35 ≤ a) (h : CR M a R) : CR (cpH b a M) b R := by
  obtain ⟨c1, c2, c3, c4, c5, c6, c7, c8, c9, c10, c11, c12, c13, c14, c15, c16⟩ := h
  exact ⟨by rw [cpH_f0 hd]; exact c1, fun p hp => ⟨by rw [cpH_r1 hd hp]; exact (c2 p hp).1, by rw [cpH_r2 hd hp]; exact (c2 p hp).2.1, by rw [cpH_r3 hd hp]; exact (c2 p hp).2.2⟩, fun p hp q hq => by rw [cpH_r4 hd (by omega)]; exact c3 p hp q hq, by rw [cpH_f5 hd]; exact c4, fun i hi => ⟨by rw [cpH_r5 hd hi]; exact (c5 i hi).1, by rw [cpH_r6 hd hi]; exact (c5 i hi).2.1, by rw [cpH_r7 hd hi]; exact (c5 i hi).2.2⟩, by rw [cpH_f9 hd]; exact c6, fun f hf => by rw [cpH_r8 hd hf]; exact c7 f hf, by rw [cpH_f11 hd]; exact c8, by rw [cpH_f12 hd]; exact c9, by rw [cpH_f13 hd]; exact c10, by rw [cpH_f14 hd]; exact c11, fun r hr c hc => by rw [cpH_t10 hd hr hc]; exact c12 r hr c hc, by rw [cpH_f16 hd]; exact c13, fun r hr c hc => by rw [cpH_t16 hd hr hc]; exact c14 r hr c hc, by rw [cpH_f18 hd]; exact c15, fun r hr c hc => by rw [cpH_t27 hd hr hc]; exact c16 r hr c hc⟩
section
variable {z : Nat} (N : Nat) {M : PM} {R : Nat → Nat} {T : TT} {hc : Nat}
theorem c_copyRow {M : PM} {a b n : Nat} (ha : shp M.2.2 a = some (.inl (0, n))) (hb : shp M.2.2 b = some (.inl (0, n))) (hn : n < 1000) : fX6_copyRow N (enc z M) (z + a) (z + b) = some ((), enc z (cpR M a b n)) := by
  have l1 : zlen (enc z M) (z + a) = some (nI n) := e_lenA ha (by decide)
  have l2 : zlen (enc z M) (z + b) = some (nI n) := e_lenA hb (by decide)
  have e := e_copyI (z := z) (M := M) (sp := nI 0) (dp := nI 0) (n := nI n) ha hb ⟨by decide, by decide, fun q => (nlt0 (by omega)).mp q, by rw [nclamp (i := 0) (by omega), nclamp (i := n) (by omega)]; omega, by rw [nclamp (i := 0) (by omega), nclamp (i := n) (by omega)]; omega⟩
  rw [nclamp (i := 0) (by omega), nclamp (i := n) (by omega)] at e
  rw [fX6_copyRow]; simp only [lit]
  rw [bnd l1, bnd l2, ite_self, bnd e]
  rfl
theorem c_copyTab {A B a b k n : Nat} (lA : ∀ M : PM, zlen (enc z M) (z + A) = some (nI k)) (lB : ∀ M : PM, zlen (enc z M) (z + B) = some (nI k)) (gA : ∀ (M : PM) i, i < k → zaald 7 (enc z M) (z + A) (nI i) = some (z + (a + i))) (gB : ∀ (M : PM) i, i < k → zaald 7 (enc z M) (z + B) (nI i) = some (z + (b + i))) (sa : ∀ (Q : Nat → Nat) i, i < k → shp Q (a + i) = some (.inl (0, n))) (sb : ∀ (Q : Nat → Nat) i, i < k → shp Q (b + i) = some (.inl (0, n))) (hn : n < 1000) (hk : k < 100) {M : PM} : ∀ m i, i ≤ k → k - i < m → zfix (fun _ _ _ _ => none) (bX6_copyTable_2 N) m (enc z (tabM M a b n i)) (z + A) (z + B) (nI i) = some ((), enc z (tabM M a b n k)) := by
  intro m
  induction m with
  | zero => intro i _ h; omega
  | succ m ih =>
    intro i hi hm
    rw [zfix_succ, bX6_copyTable_2]
    simp only [lit]
    rw [bnd (lA _)]
    by_cases h : i = k
    · subst h
      simp (disch := omega) only [↓znm_, ↓reduceIte, rn0, rn1, rbI, nle_t, nle_f, nlt_t, nlt_f, neq_t, neq_f, x_add, x_mul, x_sub, x_div, ↓x_rem, x_remN, setI_eq, setI_ne, setI_nk, setI_2, bn0, bn1, reduceCtorEq]
    · have nxt := ih (i + 1) (by omega) (by omega)
      rw [bnd (lB _), bnd (gA _ i (by omega)), bnd (gB _ i (by omega)), zc (c_copyRow N (sa _ i (by omega)) (sb _ i (by omega)) hn)]
      simp (disch := omega) only [↓znm_, ↓reduceIte, rn0, rn1, rbI, nle_t, nle_f, nlt_t, nlt_f, neq_t, neq_f, x_add, x_mul, x_sub, x_div, ↓x_rem, x_remN, setI_eq, setI_ne, setI_nk, setI_2, bn0, bn1, reduceCtorEq]
      exact nxt
theorem R45 {M : PM} {i : Nat} (hi : i < 5) : zaald 7 (enc z M) (z + 45) (nI i) = some (z + (46 + i)) := n_aald (k := 45) (os := [46, 47, 48, 49, 50]) rfl (by rcases (show i = 0 ∨ i = 1 ∨ i = 2 ∨ i = 3 ∨ i = 4 by omega) with rfl | rfl | rfl | rfl | rfl <;> rfl) (by omega)
theorem R51 {M : PM} {i : Nat} (hi : i < 10) : zaald 7 (enc z M) (z + 51) (nI i) = some (z + (52 + i)) := n_aald (k := 51) (os := [52, 53, 54, 55, 56, 57, 58, 59, 60, 61]) rfl (by rcases (show i = 0 ∨ i = 1 ∨ i = 2 ∨ i = 3 ∨ i = 4 ∨ i = 5 ∨ i = 6 ∨ i = 7 ∨ i = 8 ∨ i = 9 by omega) with rfl | rfl | rfl | rfl | rfl | rfl | rfl | rfl | rfl | rfl <;> rfl) (by omega)
theorem R62 {M : PM} {i : Nat} (hi : i < 8) : zaald 7 (enc z M) (z + 62) (nI i) = some (z + (63 + i)) := n_aald (k := 62) (os := [63, 64, 65, 66, 67, 68, 69, 70]) rfl (by rcases (show i = 0 ∨ i = 1 ∨ i = 2 ∨ i = 3 ∨ i = 4 ∨ i = 5 ∨ i = 6 ∨ i = 7 by omega) with rfl | rfl | rfl | rfl | rfl | rfl | rfl | rfl <;> rfl) (by omega)
theorem L10 {M : PM} : zlen (enc z M) (z + 10) = some (nI 5) := e_lenR (k := 10) (os := [11, 12, 13, 14, 15]) rfl (by decide)
theorem L16 {M : PM} : zlen (enc z M) (z + 16) = some (nI 10) := e_lenR (k := 16) (os := [17, 18, 19, 20, 21, 22, 23, 24, 25, 26]) rfl (by decide)
theorem L27 {M : PM} : zlen (enc z M) (z + 27) = some (nI 8) := e_lenR (k := 27) (os := [28, 29, 30, 31, 32, 33, 34, 35]) rfl (by decide)
theorem L45 {M : PM} : zlen (enc z M) (z + 45) = some (nI 5) := e_lenR (k := 45) (os := [46, 47, 48, 49, 50]) rfl (by decide)
theorem L51 {M : PM} : zlen (enc z M) (z + 51) = some (nI 10) := e_lenR (k := 51) (os := [52, 53, 54, 55, 56, 57, 58, 59, 60, 61]) rfl (by decide)
theorem L62 {M : PM} : zlen (enc z M) (z + 62) = some (nI 8) := e_lenR (k := 62) (os := [63, 64, 65, 66, 67, 68, 69, 70]) rfl (by decide)
theorem q36_f0 {M : PM} {β : Type} {K : AH → Option β} : ((zgI (enc z M) (z + 1) 6 0).bind fun v => (zput (enc z M) (z + 36) 6 0 (.int v)).bind K) = K (enc z (fld 36 1 0 M)) := by rw [G1_0b, P36_0b]; rfl
theorem q36_f5 {M : PM} {β : Type} {K : AH → Option β} : ((zgI (enc z M) (z + 1) 6 5).bind fun v => (zput (enc z M) (z + 36) 6 5 (.int v)).bind K) = K (enc z (fld 36 1 5 M)) := by rw [G1_5b, P36_5b]; rfl
theorem q36_f9 {M : PM} {β : Type} {K : AH → Option β} : ((zgI (enc z M) (z + 1) 6 9).bind fun v => (zput (enc z M) (z + 36) 6 9 (.int v)).bind K) = K (enc z (fld 36 1 9 M)) := by rw [G1_9b, P36_9b]; rfl
theorem q36_f11 {M : PM} {β : Type} {K : AH → Option β} : ((zgI (enc z M) (z + 1) 6 11).bind fun v => (zput (enc z M) (z + 36) 6 11 (.int v)).bind K) = K (enc z (fld 36 1 11 M)) := by rw [G1_11b, P36_11b]; rfl
theorem q36_f12 {M : PM} {β : Type} {K : AH → Option β} : ((zgI (enc z M) (z + 1) 6 12).bind fun v => (zput (enc z M) (z + 36) 6 12 (.int v)).bind K) = K (enc z (fld 36 1 12 M)) := by rw [G1_12b, P36_12b]; rfl
theorem q36_f13 {M : PM} {β : Type} {K : AH → Option β} : ((zgI (enc z M) (z + 1) 6 13).bind fun v => (zput (enc z M) (z + 36) 6 13 (.int v)).bind K) = K (enc z (fld 36 1 13 M)) := by rw [G1_13b, P36_13b]; rfl
theorem q36_f14 {M : PM} {β : Type} {K : AH → Option β} : ((zgI (enc z M) (z + 1) 6 14).bind fun v => (zput (enc z M) (z + 36) 6 14 (.int v)).bind K) = K (enc z (fld 36 1 14 M)) := by rw [G1_14b, P36_14b]; rfl
theorem q36_f16 {M : PM} {β : Type} {K : AH → Option β} : ((zgI (enc z M) (z + 1) 6 16).bind fun v => (zput (enc z M) (z + 36) 6 16 (.int v)).bind K) = K (enc z (fld 36 1 16 M)) := by rw [G1_16b, P36_16b]; rfl
theorem q36_f18 {M : PM} {β : Type} {K : AH → Option β} : ((zgI (enc z M) (z + 1) 6 18).bind fun v => (zput (enc z M) (z + 36) 6 18 (.int v)).bind K) = K (enc z (fld 36 1 18 M)) := by rw [G1_18b, P36_18b]; rfl
theorem c_copy36 (hN : 300 ≤ N) {M : PM} : fX6_copyFrom N (enc z M) (z + 36) (z + 1) = some ((), enc z (cpH 36 1 M)) := by
  have t10 : ∀ M : PM, fX6_copyTable N (enc z M) (z + 10) (z + 45) = some ((), enc z (tbM 36 1 10 5 4 M)) := fun M => c_copyTab N (fun _ => L10) (fun _ => L45) (fun _ _ hi => R10 hi) (fun _ _ hi => R45 hi) (fun _ _ hi => (sh_seen hi).1) (fun _ _ hi => (sh_seen hi).2) (by omega) (by omega) N 0 (by omega) (by omega)
  have t16 : ∀ M : PM, fX6_copyTable N (enc z M) (z + 16) (z + 51) = some ((), enc z (tbM 36 1 16 10 2 M)) := fun M => c_copyTab N (fun _ => L16) (fun _ => L51) (fun _ _ hi => R16 hi) (fun _ _ hi => R51 hi) (fun _ _ hi => (sh_plan hi).1) (fun _ _ hi => (sh_plan hi).2) (by omega) (by omega) N 0 (by omega) (by omega)
  have t27 : ∀ M : PM, fX6_copyTable N (enc z M) (z + 27) (z + 62) = some ((), enc z (tbM 36 1 27 8 2 M)) := fun M => c_copyTab N (fun _ => L27) (fun _ => L62) (fun _ _ hi => R27 hi) (fun _ _ hi => R62 hi) (fun _ _ hi => (sh_book hi).1) (fun _ _ hi => (sh_book hi).2) (by omega) (by omega) N 0 (by omega) (by omega)
  have r1 : ∀ M : PM, fX6_copyRow N (enc z M) (z + 2) (z + 37) = some ((), enc z (rwM 36 1 1 6 M)) := fun M => c_copyRow N rfl rfl (by omega)
  have r2 : ∀ M : PM, fX6_copyRow N (enc z M) (z + 3) (z + 38) = some ((), enc z (rwM 36 1 2 6 M)) := fun M => c_copyRow N rfl rfl (by omega)
  have r3 : ∀ M : PM, fX6_copyRow N (enc z M) (z + 4) (z + 39) = some ((), enc z (rwM 36 1 3 6 M)) := fun M => c_copyRow N rfl rfl (by omega)
  have r4 : ∀ M : PM, fX6_copyRow N (enc z M) (z + 5) (z + 40) = some ((), enc z (rwM 36 1 4 24 M)) := fun M => c_copyRow N rfl rfl (by omega)
  have r5 : ∀ M : PM, fX6_copyRow N (enc z M) (z + 6) (z + 41) = some ((), enc z (rwM 36 1 5 8 M)) := fun M => c_copyRow N rfl rfl (by omega)
  have r6 : ∀ M : PM, fX6_copyRow N (enc z M) (z + 7) (z + 42) = some ((), enc z (rwM 36 1 6 8 M)) := fun M => c_copyRow N rfl rfl (by omega)
  have r7 : ∀ M : PM, fX6_copyRow N (enc z M) (z + 8) (z + 43) = some ((), enc z (rwM 36 1 7 8 M)) := fun M => c_copyRow N rfl rfl (by omega)
  have r8 : ∀ M : PM, fX6_copyRow N (enc z M) (z + 9) (z + 44) = some ((), enc z (rwM 36 1 8 5 M)) := fun M => c_copyRow N rfl rfl (by omega)
  rw [fX6_copyFrom, cpH]
  rw [q36_f0, G1_1b, G36_1b, zc (r1 _), G1_2b, G36_2b, zc (r2 _), G1_3b, G36_3b, zc (r3 _), G1_4b, G36_4b, zc (r4 _), q36_f5, G1_6b, G36_6b, zc (r5 _), G1_7b, G36_7b, zc (r6 _), G1_8b, G36_8b, zc (r7 _), q36_f9, G1_10b, G36_10b, zc (r8 _), q36_f11, q36_f12, q36_f13, q36_f14, G1_15b, G36_15b, zc (t10 _), q36_f16, G1_17b, G36_17b, zc (t16 _), q36_f18, G1_19b, G36_19b, zc (t27 _)]
theorem q1_f0 {M : PM} {β : Type} {K : AH → Option β} : ((zgI (enc z M) (z + 36) 6 0).bind fun v => (zput (enc z M) (z + 1) 6 0 (.int v)).bind K) = K (enc z (fld 1 36 0 M)) := by rw [G36_0b, P1_0b]; rfl
theorem q1_f5 {M : PM} {β : Type} {K : AH → Option β} : ((zgI (enc z M) (z + 36) 6 5).bind fun v => (zput (enc z M) (z + 1) 6 5 (.int v)).bind K) = K (enc z (fld 1 36 5 M)) := by rw [G36_5b, P1_5b]; rfl
theorem q1_f9 {M : PM} {β : Type} {K : AH → Option β} : ((zgI (enc z M) (z + 36) 6 9).bind fun v => (zput (enc z M) (z + 1) 6 9 (.int v)).bind K) = K (enc z (fld 1 36 9 M)) := by rw [G36_9b, P1_9b]; rfl
theorem q1_f11 {M : PM} {β : Type} {K : AH → Option β} : ((zgI (enc z M) (z + 36) 6 11).bind fun v => (zput (enc z M) (z + 1) 6 11 (.int v)).bind K) = K (enc z (fld 1 36 11 M)) := by rw [G36_11b, P1_11b]; rfl
theorem q1_f12 {M : PM} {β : Type} {K : AH → Option β} : ((zgI (enc z M) (z + 36) 6 12).bind fun v => (zput (enc z M) (z + 1) 6 12 (.int v)).bind K) = K (enc z (fld 1 36 12 M)) := by rw [G36_12b, P1_12b]; rfl
theorem q1_f13 {M : PM} {β : Type} {K : AH → Option β} : ((zgI (enc z M) (z + 36) 6 13).bind fun v => (zput (enc z M) (z + 1) 6 13 (.int v)).bind K) = K (enc z (fld 1 36 13 M)) := by rw [G36_13b, P1_13b]; rfl
theorem q1_f14 {M : PM} {β : Type} {K : AH → Option β} : ((zgI (enc z M) (z + 36) 6 14).bind fun v => (zput (enc z M) (z + 1) 6 14 (.int v)).bind K) = K (enc z (fld 1 36 14 M)) := by rw [G36_14b, P1_14b]; rfl
theorem q1_f16 {M : PM} {β : Type} {K : AH → Option β} : ((zgI (enc z M) (z + 36) 6 16).bind fun v => (zput (enc z M) (z + 1) 6 16 (.int v)).bind K) = K (enc z (fld 1 36 16 M)) := by rw [G36_16b, P1_16b]; rfl
theorem q1_f18 {M : PM} {β : Type} {K : AH → Option β} : ((zgI (enc z M) (z + 36) 6 18).bind fun v => (zput (enc z M) (z + 1) 6 18 (.int v)).bind K) = K (enc z (fld 1 36 18 M)) := by rw [G36_18b, P1_18b]; rfl
theorem c_copy1 (hN : 300 ≤ N) {M : PM} : fX6_copyFrom N (enc z M) (z + 1) (z + 36) = some ((), enc z (cpH 1 36 M)) := by
  have t10 : ∀ M : PM, fX6_copyTable N (enc z M) (z + 45) (z + 10) = some ((), enc z (tbM 1 36 10 5 4 M)) := fun M => c_copyTab N (fun _ => L45) (fun _ => L10) (fun _ _ hi => R45 hi) (fun _ _ hi => R10 hi) (fun _ _ hi => (sh_seen hi).2) (fun _ _ hi => (sh_seen hi).1) (by omega) (by omega) N 0 (by omega) (by omega)
  have t16 : ∀ M : PM, fX6_copyTable N (enc z M) (z + 51) (z + 16) = some ((), enc z (tbM 1 36 16 10 2 M)) := fun M => c_copyTab N (fun _ => L51) (fun _ => L16) (fun _ _ hi => R51 hi) (fun _ _ hi => R16 hi) (fun _ _ hi => (sh_plan hi).2) (fun _ _ hi => (sh_plan hi).1) (by omega) (by omega) N 0 (by omega) (by omega)
  have t27 : ∀ M : PM, fX6_copyTable N (enc z M) (z + 62) (z + 27) = some ((), enc z (tbM 1 36 27 8 2 M)) := fun M => c_copyTab N (fun _ => L62) (fun _ => L27) (fun _ _ hi => R62 hi) (fun _ _ hi => R27 hi) (fun _ _ hi => (sh_book hi).2) (fun _ _ hi => (sh_book hi).1) (by omega) (by omega) N 0 (by omega) (by omega)
  have r1 : ∀ M : PM, fX6_copyRow N (enc z M) (z + 37) (z + 2) = some ((), enc z (rwM 1 36 1 6 M)) := fun M => c_copyRow N rfl rfl (by omega)
  have r2 : ∀ M : PM, fX6_copyRow N (enc z M) (z + 38) (z + 3) = some ((), enc z (rwM 1 36 2 6 M)) := fun M => c_copyRow N rfl rfl (by omega)
  have r3 : ∀ M : PM, fX6_copyRow N (enc z M) (z + 39) (z + 4) = some ((), enc z (rwM 1 36 3 6 M)) := fun M => c_copyRow N rfl rfl (by omega)
  have r4 : ∀ M : PM, fX6_copyRow N (enc z M) (z + 40) (z + 5) = some ((), enc z (rwM 1 36 4 24 M)) := fun M => c_copyRow N rfl rfl (by omega)
  have r5 : ∀ M : PM, fX6_copyRow N (enc z M) (z + 41) (z + 6) = some ((), enc z (rwM 1 36 5 8 M)) := fun M => c_copyRow N rfl rfl (by omega)
  have r6 : ∀ M : PM, fX6_copyRow N (enc z M) (z + 42) (z + 7) = some ((), enc z (rwM 1 36 6 8 M)) := fun M => c_copyRow N rfl rfl (by omega)
  have r7 : ∀ M : PM, fX6_copyRow N (enc z M) (z + 43) (z + 8) = some ((), enc z (rwM 1 36 7 8 M)) := fun M => c_copyRow N rfl rfl (by omega)
  have r8 : ∀ M : PM, fX6_copyRow N (enc z M) (z + 44) (z + 9) = some ((), enc z (rwM 1 36 8 5 M)) := fun M => c_copyRow N rfl rfl (by omega)
  rw [fX6_copyFrom, cpH]
  rw [q1_f0, G36_1b, G1_1b, zc (r1 _), G36_2b, G1_2b, zc (r2 _), G36_3b, G1_3b, zc (r3 _), G36_4b, G1_4b, zc (r4 _), q1_f5, G36_6b, G1_6b, zc (r5 _), G36_7b, G1_7b, zc (r6 _), G36_8b, G1_8b, zc (r7 _), q1_f9, G36_10b, G1_10b, zc (r8 _), q1_f11, q1_f12, q1_f13, q1_f14, G36_15b, G1_15b, zc (t10 _), q1_f16, G36_17b, G1_17b, zc (t16 _), q1_f18, G36_19b, G1_19b, zc (t27 _)]
theorem IV_I {M M' : PM} (h : IV M R T hc) (h2 : M'.2.1 = M.2.1) (hF : ∀ c j, ¬ ((36 ≤ c ∧ c < 71) ∨ (c = 0 ∧ j = 2) ∨ (c = 126 ∧ j = 3) ∨ c = 129) → M'.1 c j = M.1 c j) (hI : IM M' hc) : IV M' R T hc := by
  obtain ⟨a1, a2, a3, ⟨b1, b2, b3, b4, b5⟩, a5, a6, a7, a8⟩ := h
  have hc6 := b5.2.1
  exact ⟨CR_F (fun c j q1 q2 => hF c j (by omega)) a1, fun j hj => by rw [hF 127 j (by omega)]; exact a2 j hj, a3, ⟨by rw [hF 0 6 (by omega)]; exact b1, by rw [hF 126 8 (by omega)]; exact b2, HK_F (fun j => hF _ _ (by omega)) (hF _ _ (by omega)) (hF _ _ (by omega)) b3, fun t ht => HK_F (fun j => hF _ _ (by omega)) (hF _ _ (by omega)) (hF _ _ (by omega)) (b4 t ht), HT_e (fun c j q => hF c j (by omega)) b5⟩, hI, TX_F (hF _ _ (by omega)) (hF _ _ (by omega)) (fun j => hF _ _ (by omega)) (fun j => hF _ _ (by omega)) a6, TN_F (hF 85 2 (by omega)) (hF 126 23 (by omega)) (fun c j q => hF c j (by omega)) a7, TP_F (fun c j q => hF c j (by omega)) h2 a8⟩
set_option maxHeartbeats 4000000 in
theorem s_image (hN : 300 ≤ N) (h : IV M R T hc) : ST z (fun h => fX11_image N h z) (fun h => fX12_image N h (z + 126)) M := by
  have h0 := h
  obtain ⟨hC, hM, hW, hH, hI, _⟩ := h
  have e1 := c_copy36 (z := z) N hN (M := M)
  have c1 : (cpH 36 1 M).1 1 0 = nI (R 76) := by rw [cpH_nk (by omega)]; exact hC.1
  generalize hM1 : setI (cpH 36 1 M) 0 2 (nI 1) = M1
  have hF1 : ∀ c j, ¬ ((36 ≤ c ∧ c < 71) ∨ (c = 0 ∧ j = 2)) → M1.1 c j = M.1 c j := by
    intro c j q
    rw [← hM1, setI_at, if_neg (by omega), cpH_nk (by omega)]
  have hB : M1.2 = M.2 := by rw [← hM1, setI_2, cpH_2]
  have hR1 : ∀ j, j < 140 → (setI M1 126 3 (nI 1)).1 127 j = nI (R j) := by
    intro j hj
    rw [setI_nk (by omega), hF1 127 j (by omega)]; exact hM j hj
  obtain ⟨M2, g1, g2, g3, g4⟩ := m_move (z := z) N hN (a := 127) (b := 129) (Or.inl rfl) (Or.inr (Or.inr rfl)) (by omega) (M := setI M1 126 3 (nI 1))
  have m76 : M2.1 127 76 = nI (R 76) := by rw [g3 127 76 (by omega)]; exact hR1 76 (by omega)
  refine ⟨nI (R 76), M1, M2, ?_, ?_, R, T, hc, ?_⟩
  · show fX11_image N (enc z M) z = _
    rw [fX11_image]; simp only [lit]
    rw [G0_1b, G0_0b, O36b, zc e1, P0_2n, G0_0b, G1_0b, setI_nk (by omega), c1, hM1]
  · show fX12_image N (enc z M1) (z + 126) = _
    rw [fX12_image]; simp only [lit]; simp (disch := omega) only [↓znm_, ↓reduceIte, rn0, rn1, rbI, nle_t, nle_f, nlt_t, nlt_f, neq_t, neq_f, x_add, x_mul, x_sub, x_div, ↓x_rem, x_remN, setI_eq, setI_ne, setI_nk, setI_2, bn0, bn1, reduceCtorEq, ↓O126b, ↓G126_0b, ↓G126_1b, ↓G126_2b, ↓G126_3b, ↓P126_3b, ↓G126_4b, ↓G126_5b, ↓P126_5b, ↓G126_6b, ↓G126_7b, ↓G126_8b, ↓P126_8b, ↓G126_9b, ↓G126_10b, ↓P126_10b, ↓G126_11b, ↓P126_11b, ↓G126_12b, ↓P126_12b, ↓G126_13b, ↓P126_13b, ↓G126_14b, ↓P126_14b, ↓G126_15b, ↓P126_15b, ↓G126_16b, ↓G126_17b, ↓G126_18b, ↓G126_19b, ↓G126_20b, ↓G126_21b, ↓G126_22b, ↓G126_23b, ↓P126_23b, ↓G126_24b, ↓G126_25b, ↓G126_26b, ↓G126_27b, ↓A127b, ↓A127m, ↓A127p, ↓A127mp, ↓A127pm, ↓A127pmp, ↓A127mpp, ↓A127pp, ↓S127b, ↓S127m, ↓S127p, ↓S127mp, ↓S127pm, ↓S127pmp, ↓S127mpp, ↓S127pp, ↓N127b, ↓A128b, ↓S128b, ↓N128b, ↓A129b, ↓S129b, ↓N129b, ↓A130b, ↓S130b, ↓N130b, ↓A131b, ↓A131m, ↓A131p, ↓A131mp, ↓A131pm, ↓A131pmp, ↓A131mpp, ↓A131pp, ↓S131b, ↓S131m, ↓S131p, ↓S131mp, ↓S131pm, ↓S131pmp, ↓S131mpp, ↓S131pp, ↓N131b, ↓A132b, ↓S132b, ↓N132b, ↓A133b, ↓S133b, ↓N133b, ↓A134b, ↓S134b, ↓N134b, ↓A135b, ↓S135b, ↓N135b, ↓A136b, ↓S136b, ↓N136b, ↓A137b, ↓A137m, ↓A137p, ↓A137mp, ↓A137pm, ↓A137pmp, ↓A137mpp, ↓A137pp, ↓S137b, ↓S137m, ↓S137p, ↓S137mp, ↓S137pm, ↓S137pmp, ↓S137mpp, ↓S137pp, ↓N137b, ↓A138b, ↓S138b, ↓N138b, ↓A139b, ↓A139m, ↓A139p, ↓A139mp, ↓A139pm, ↓A139pmp, ↓A139mpp, ↓A139pp, ↓S139b, ↓S139m, ↓S139p, ↓S139mp, ↓S139pm, ↓S139pmp, ↓S139mpp, ↓S139pp, ↓N139b, ↓A140b, ↓S140b, ↓N140b, ↓A141b, ↓S141b, ↓N141b, ↓A142b, ↓S142b, ↓N142b, ↓A143b, ↓A143m, ↓A143p, ↓A143mp, ↓A143pm, ↓A143pmp, ↓A143mpp, ↓A143pp, ↓S143b, ↓S143m, ↓S143p, ↓S143mp, ↓S143pm, ↓S143pmp, ↓S143mpp, ↓S143pp, ↓A144b, ↓S144b, A127b, S127b, A128b, S128b, A129b, S129b, A130b, S130b, A131b, S131b, A132b, S132b, A133b, S133b, A134b, S134b, A135b, S135b, A136b, S136b, A137b, S137b, A138b, S138b, A139b, S139b, A140b, S140b, A141b, S141b, A142b, S142b, A143b, S143b, A144b, S144b, ↓P126_3n, ↓P126_12n, ↓P126_12o, ↓zc g1, m76]
  · refine IV_I h0 (by rw [g2, setI_2, hB]) (fun c j q => ?_) ⟨true, ?_, ?_, fun _ => ⟨R, ?_, fun j hj => ?_, hW⟩⟩
    · rw [g3 c j (by omega), setI_at, if_neg (by omega)]; exact hF1 c j (by omega)
    · rw [g3 0 2 (by omega), setI_nk (by omega), ← hM1, setI_eq]; rfl
    · rw [g3 126 3 (by omega), setI_eq]; rfl
    · refine CR_F (fun c j q1 q2 => ?_) (CR_cp (Or.inl (by omega)) hC)
      rw [g3 c j (by omega), setI_nk (by omega), ← hM1, setI_nk (by omega)]
    · rw [g4 j hj]; exact hR1 j hj
set_option maxHeartbeats 4000000 in
theorem s_undo (hN : 300 ≤ N) (h : IV M R T hc) : ST z (fun h => fX11_undo N h z) (fun h => fX12_undo N h (z + 126)) M := by
  have h0 := h
  obtain ⟨hC, hM, hW, hH, ⟨img, i1, i2, i3⟩, _⟩ := h
  cases img with
  | false =>
    rw [bI_f] at i1 i2
    refine ST_same h0 (r := -nI 3) ?_ ?_
    · show fX11_undo N (enc z M) z = _
      rw [fX11_undo]; simp only [lit]; simp (disch := omega) only [↓znm_, ↓reduceIte, rn0, rn1, rbI, nle_t, nle_f, nlt_t, nlt_f, neq_t, neq_f, x_add, x_mul, x_sub, x_div, ↓x_rem, x_remN, setI_eq, setI_ne, setI_nk, setI_2, bn0, bn1, reduceCtorEq, ↓O0b, ↓G0_0b, ↓G0_1b, ↓G0_2b, ↓P0_2b, ↓G0_3b, ↓G0_4b, ↓G0_5b, ↓G0_6b, ↓P0_6b, ↓G0_7b, ↓G0_8b, ↓P0_8b, ↓G0_9b, ↓G0_10b, ↓G0_11b, ↓G0_12b, ↓O1b, ↓G1_0b, ↓P1_0b, ↓G1_1b, ↓G1_2b, ↓G1_3b, ↓G1_4b, ↓G1_5b, ↓P1_5b, ↓G1_6b, ↓G1_7b, ↓G1_8b, ↓G1_9b, ↓P1_9b, ↓G1_10b, ↓G1_11b, ↓P1_11b, ↓G1_12b, ↓P1_12b, ↓G1_13b, ↓P1_13b, ↓G1_14b, ↓P1_14b, ↓G1_15b, ↓G1_16b, ↓P1_16b, ↓G1_17b, ↓G1_18b, ↓P1_18b, ↓G1_19b, ↓O85b, ↓G85_0b, ↓P85_0b, ↓G85_1b, ↓P85_1b, ↓G85_2b, ↓P85_2b, ↓G85_3b, ↓A2b, ↓S2b, ↓N2b, ↓A3b, ↓S3b, ↓N3b, ↓A4b, ↓S4b, ↓N4b, ↓A5b, ↓A5m, ↓A5p, ↓A5mp, ↓A5pm, ↓A5pmp, ↓A5mpp, ↓A5pp, ↓S5b, ↓S5m, ↓S5p, ↓S5mp, ↓S5pm, ↓S5pmp, ↓S5mpp, ↓S5pp, ↓N5b, ↓A6b, ↓S6b, ↓N6b, ↓A7b, ↓S7b, ↓N7b, ↓A8b, ↓S8b, ↓N8b, ↓A9b, ↓S9b, ↓N9b, ↓A84b, ↓S84b, ↓N84b, ↓A86b, ↓S86b, ↓N86b, ↓A88b, ↓S88b, ↓N88b, ↓A89b, ↓S89b, ↓N89b, ↓R10b, ↓R16b, ↓R27b, ↓R83b, ↓R87b, ↓R71b, ↓P0_2n, A2b, S2b, A3b, S3b, A4b, S4b, A5b, S5b, A6b, S6b, A7b, S7b, A8b, S8b, A9b, S9b, A84b, S84b, A86b, S86b, A88b, S88b, A89b, S89b, R10b, R16b, R27b, R83b, R87b, R71b, i1]
    · show fX12_undo N (enc z M) (z + 126) = _
      rw [fX12_undo]; simp only [lit]; simp (disch := omega) only [↓znm_, ↓reduceIte, rn0, rn1, rbI, nle_t, nle_f, nlt_t, nlt_f, neq_t, neq_f, x_add, x_mul, x_sub, x_div, ↓x_rem, x_remN, setI_eq, setI_ne, setI_nk, setI_2, bn0, bn1, reduceCtorEq, ↓O126b, ↓G126_0b, ↓G126_1b, ↓G126_2b, ↓G126_3b, ↓P126_3b, ↓G126_4b, ↓G126_5b, ↓P126_5b, ↓G126_6b, ↓G126_7b, ↓G126_8b, ↓P126_8b, ↓G126_9b, ↓G126_10b, ↓P126_10b, ↓G126_11b, ↓P126_11b, ↓G126_12b, ↓P126_12b, ↓G126_13b, ↓P126_13b, ↓G126_14b, ↓P126_14b, ↓G126_15b, ↓P126_15b, ↓G126_16b, ↓G126_17b, ↓G126_18b, ↓G126_19b, ↓G126_20b, ↓G126_21b, ↓G126_22b, ↓G126_23b, ↓P126_23b, ↓G126_24b, ↓G126_25b, ↓G126_26b, ↓G126_27b, ↓A127b, ↓A127m, ↓A127p, ↓A127mp, ↓A127pm, ↓A127pmp, ↓A127mpp, ↓A127pp, ↓S127b, ↓S127m, ↓S127p, ↓S127mp, ↓S127pm, ↓S127pmp, ↓S127mpp, ↓S127pp, ↓N127b, ↓A128b, ↓S128b, ↓N128b, ↓A129b, ↓S129b, ↓N129b, ↓A130b, ↓S130b, ↓N130b, ↓A131b, ↓A131m, ↓A131p, ↓A131mp, ↓A131pm, ↓A131pmp, ↓A131mpp, ↓A131pp, ↓S131b, ↓S131m, ↓S131p, ↓S131mp, ↓S131pm, ↓S131pmp, ↓S131mpp, ↓S131pp, ↓N131b, ↓A132b, ↓S132b, ↓N132b, ↓A133b, ↓S133b, ↓N133b, ↓A134b, ↓S134b, ↓N134b, ↓A135b, ↓S135b, ↓N135b, ↓A136b, ↓S136b, ↓N136b, ↓A137b, ↓A137m, ↓A137p, ↓A137mp, ↓A137pm, ↓A137pmp, ↓A137mpp, ↓A137pp, ↓S137b, ↓S137m, ↓S137p, ↓S137mp, ↓S137pm, ↓S137pmp, ↓S137mpp, ↓S137pp, ↓N137b, ↓A138b, ↓S138b, ↓N138b, ↓A139b, ↓A139m, ↓A139p, ↓A139mp, ↓A139pm, ↓A139pmp, ↓A139mpp, ↓A139pp, ↓S139b, ↓S139m, ↓S139p, ↓S139mp, ↓S139pm, ↓S139pmp, ↓S139mpp, ↓S139pp, ↓N139b, ↓A140b, ↓S140b, ↓N140b, ↓A141b, ↓S141b, ↓N141b, ↓A142b, ↓S142b, ↓N142b, ↓A143b, ↓A143m, ↓A143p, ↓A143mp, ↓A143pm, ↓A143pmp, ↓A143mpp, ↓A143pp, ↓S143b, ↓S143m, ↓S143p, ↓S143mp, ↓S143pm, ↓S143pmp, ↓S143mpp, ↓S143pp, ↓A144b, ↓S144b, A127b, S127b, A128b, S128b, A129b, S129b, A130b, S130b, A131b, S131b, A132b, S132b, A133b, S133b, A134b, S134b, A135b, S135b, A136b, S136b, A137b, S137b, A138b, S138b, A139b, S139b, A140b, S140b, A141b, S141b, A142b, S142b, A143b, S143b, A144b, S144b, ↓P126_3n, ↓P126_12n, ↓P126_12o, i2]
  | true =>
    rw [bI_t] at i1 i2
    obtain ⟨Rt, b1, b2, b3⟩ := i3 rfl
    have e1 := c_copy1 (z := z) N hN (M := M)
    have hC1 := CR_cp (b := 1) (a := 36) (Or.inr (by omega)) b1
    have c1 := hC1.1
    have i2' : (cpH 1 36 M).1 126 3 = nI 1 := by rw [cpH_nk (by omega)]; exact i2
    obtain ⟨M2, g1, g2, g3, g4⟩ := m_move (z := z) N hN (a := 129) (b := 127) (Or.inr (Or.inr rfl)) (Or.inl rfl) (by omega) (M := cpH 1 36 M)
    have hR2 : MR M2 Rt := fun j hj => by rw [g4 j hj, cpH_nk (by omega)]; exact b2 j hj
    have m76 := hR2 76 (by omega)
    refine ⟨nI (Rt 76), cpH 1 36 M, M2, ?_, ?_, Rt, T, hc, ?_⟩
    · show fX11_undo N (enc z M) z = _
      rw [fX11_undo]; simp only [lit]
      rw [G0_2b, i1]; simp (disch := omega) only [neq_f, ↓reduceIte]; rw [G0_0b, G0_1b, O1b, zc e1, G0_0b, G1_0b, c1]
    · show fX12_undo N (enc z (cpH 1 36 M)) (z + 126) = _
      rw [fX12_undo]; simp only [lit]; simp (disch := omega) only [↓znm_, ↓reduceIte, rn0, rn1, rbI, nle_t, nle_f, nlt_t, nlt_f, neq_t, neq_f, x_add, x_mul, x_sub, x_div, ↓x_rem, x_remN, setI_eq, setI_ne, setI_nk, setI_2, bn0, bn1, reduceCtorEq, ↓O126b, ↓G126_0b, ↓G126_1b, ↓G126_2b, ↓G126_3b, ↓P126_3b, ↓G126_4b, ↓G126_5b, ↓P126_5b, ↓G126_6b, ↓G126_7b, ↓G126_8b, ↓P126_8b, ↓G126_9b, ↓G126_10b, ↓P126_10b, ↓G126_11b, ↓P126_11b, ↓G126_12b, ↓P126_12b, ↓G126_13b, ↓P126_13b, ↓G126_14b, ↓P126_14b, ↓G126_15b, ↓P126_15b, ↓G126_16b, ↓G126_17b, ↓G126_18b, ↓G126_19b, ↓G126_20b, ↓G126_21b, ↓G126_22b, ↓G126_23b, ↓P126_23b, ↓G126_24b, ↓G126_25b, ↓G126_26b, ↓G126_27b, ↓A127b, ↓A127m, ↓A127p, ↓A127mp, ↓A127pm, ↓A127pmp, ↓A127mpp, ↓A127pp, ↓S127b, ↓S127m, ↓S127p, ↓S127mp, ↓S127pm, ↓S127pmp, ↓S127mpp, ↓S127pp, ↓N127b, ↓A128b, ↓S128b, ↓N128b, ↓A129b, ↓S129b, ↓N129b, ↓A130b, ↓S130b, ↓N130b, ↓A131b, ↓A131m, ↓A131p, ↓A131mp, ↓A131pm, ↓A131pmp, ↓A131mpp, ↓A131pp, ↓S131b, ↓S131m, ↓S131p, ↓S131mp, ↓S131pm, ↓S131pmp, ↓S131mpp, ↓S131pp, ↓N131b, ↓A132b, ↓S132b, ↓N132b, ↓A133b, ↓S133b, ↓N133b, ↓A134b, ↓S134b, ↓N134b, ↓A135b, ↓S135b, ↓N135b, ↓A136b, ↓S136b, ↓N136b, ↓A137b, ↓A137m, ↓A137p, ↓A137mp, ↓A137pm, ↓A137pmp, ↓A137mpp, ↓A137pp, ↓S137b, ↓S137m, ↓S137p, ↓S137mp, ↓S137pm, ↓S137pmp, ↓S137mpp, ↓S137pp, ↓N137b, ↓A138b, ↓S138b, ↓N138b, ↓A139b, ↓A139m, ↓A139p, ↓A139mp, ↓A139pm, ↓A139pmp, ↓A139mpp, ↓A139pp, ↓S139b, ↓S139m, ↓S139p, ↓S139mp, ↓S139pm, ↓S139pmp, ↓S139mpp, ↓S139pp, ↓N139b, ↓A140b, ↓S140b, ↓N140b, ↓A141b, ↓S141b, ↓N141b, ↓A142b, ↓S142b, ↓N142b, ↓A143b, ↓A143m, ↓A143p, ↓A143mp, ↓A143pm, ↓A143pmp, ↓A143mpp, ↓A143pp, ↓S143b, ↓S143m, ↓S143p, ↓S143mp, ↓S143pm, ↓S143pmp, ↓S143mpp, ↓S143pp, ↓A144b, ↓S144b, A127b, S127b, A128b, S128b, A129b, S129b, A130b, S130b, A131b, S131b, A132b, S132b, A133b, S133b, A134b, S134b, A135b, S135b, A136b, S136b, A137b, S137b, A138b, S138b, A139b, S139b, A140b, S140b, A141b, S141b, A142b, S142b, A143b, S143b, A144b, S144b, ↓P126_3n, ↓P126_12n, ↓P126_12o, i2', ↓zc g1, m76]
    · refine IV_U h0 ⟨by rw [g2, cpH_2], fun c j q => ?_⟩ (CR_F (fun c j q1 q2 => g3 c j (by omega)) hC1) hR2 b3
      rw [g3 c j (by omega), cpH_nk (by omega)]
end
