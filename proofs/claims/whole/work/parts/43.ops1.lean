theorem outsN_congr {R R' : Nat → Nat} (h : ∀ f, f < 5 → R' (66 + 2 * f + 1) = R (66 + 2 * f + 1)) : outsN R' = outsN R := by
  unfold outsN
  apply mkN_congr
  intro i hi
  show decide (R' (66 + 2 * i + 1) = 1) = _
  rw [h i hi]
def inR (x : Int32) (n : Nat) : Bool := decide (¬ x < nI 0 ∧ ¬ nI n ≤ x)
theorem inR_f {x : Int32} {n : Nat} (h : inR x n = false) : x < nI 0 ∨ (¬ x < nI 0 ∧ nI n ≤ x) := by
  have := of_decide_eq_false h
  by_cases q : x < nI 0
  · exact Or.inl q
  · right
    refine ⟨q, ?_⟩
    by_cases q2 : nI n ≤ x
    · exact q2
    · exact absurd ⟨q, q2⟩ this
theorem inR_n {j n : Nat} (hj : j < 2147483648) (hn : n < 2147483648) : inR (nI j) n = decide (j < n) := by
  unfold inR
  have a : ¬ nI j < nI 0 := fun q => by have := (nlt hj (by omega)).mp q; omega
  by_cases h : j < n
  · rw [decide_eq_true h, decide_eq_true]
    exact ⟨a, fun q => by have := (nle hn hj).mp q; omega⟩
  · rw [decide_eq_false h, decide_eq_false]
    intro q
    exact q.2 ((nle hn hj).mpr (by omega))
theorem inR_c (x : Int32) {n : Nat} (hn : n < 2147483648) : inR x n = false ∨ ∃ j, j < n ∧ x = nI j ∧ inR x n = true := by
  rcases pk_ix x (n := n) (by omega) with h | h | ⟨j, hj, rfl⟩
  · left
    exact decide_eq_false (fun q => q.1 h)
  · left
    exact decide_eq_false (fun q => q.2 h)
  · right
    exact ⟨j, hj, rfl, by rw [inR_n (by omega) hn, decide_eq_true hj]⟩
theorem ge_f {x : Int32} {n : Nat} (h : nI (n + 1) ≤ x) (hn : n + 1 < 2147483648) : (¬ x < nI (n + 1)) ∧ (¬ x ≤ nI n) ∧ nI n < x := by
  have a : ¬ x < nI (n + 1) := Int32.not_lt.mpr h
  have b : nI n < nI (n + 1) := (nlt (by omega) (by omega)).mpr (by omega)
  have c : nI n < x := Int32.lt_of_lt_of_le b h
  exact ⟨a, Int32.not_le.mpr c, c⟩
/-- one call on both sides -/
def ST {α : Type} (z : Nat) (f g : AH → Option (α × AH)) (M : PM) : Prop := ∃ r M1 M2, f (enc z M) = some (r, enc z M1) ∧ g (enc z M1) = some (r, enc z M2) ∧ ∃ R T hc, IV M2 R T hc
section
variable {z : Nat} (N : Nat) {M : PM} {R : Nat → Nat} {T : TT} {hc : Nat}
theorem ST_same {α : Type} {f g : AH → Option (α × AH)} {r : α} (h : IV M R T hc) (h1 : f (enc z M) = some (r, enc z M)) (h2 : g (enc z M) = some (r, enc z M)) : ST z f g M := ⟨r, M, M, h1, h2, R, T, hc, h⟩
theorem m_in {h : AH} {x : Int32} {n : Nat} (hn : n + 1 < 2147483648) : fX12_isIn N h x (nI 0) (nI n) = some (bI (inR x (n + 1)), h) := by
  rw [fX12_isIn]
  simp only [lit]
  rcases inR_c x (n := n + 1) hn with q | ⟨j, hj, rfl, q⟩
  · rw [q]
    rcases inR_f q with w | ⟨w1, w2⟩
    · simp (disch := omega) only [↓znm_, ↓reduceIte, rn0, rn1, rbI, nle_t, nle_f, nlt_t, nlt_f, neq_t, neq_f, x_add, x_mul, x_sub, x_div, ↓x_rem, x_remN, setI_eq, setI_ne, setI_nk, setI_2, bn0, bn1, reduceCtorEq, w]; rfl
    · have w3 := ge_f w2 hn
      simp (disch := omega) only [↓znm_, ↓reduceIte, rn0, rn1, rbI, nle_t, nle_f, nlt_t, nlt_f, neq_t, neq_f, x_add, x_mul, x_sub, x_div, ↓x_rem, x_remN, setI_eq, setI_ne, setI_nk, setI_2, bn0, bn1, reduceCtorEq, w1, w3.2.2]; rfl
  · rw [q]
    simp (disch := omega) only [↓znm_, ↓reduceIte, rn0, rn1, rbI, nle_t, nle_f, nlt_t, nlt_f, neq_t, neq_f, x_add, x_mul, x_sub, x_div, ↓x_rem, x_remN, setI_eq, setI_ne, setI_nk, setI_2, bn0, bn1, reduceCtorEq]; rfl
theorem c_hasx (h0 : M.1 1 0 = nI (R 76)) (h6 : R 76 ≤ 6) (x : Int32) : fX6_hasMaster N (enc z M) (z + 1) x = some (bI (inR x (R 76)), enc z M) := by
  rw [fX6_hasMaster]
  simp only [lit]
  rcases inR_c x (n := R 76) (by omega) with q | ⟨j, hj, rfl, q⟩
  · rw [q]
    rcases inR_f q with w | ⟨w1, w2⟩
    · simp (disch := omega) only [↓znm_, ↓reduceIte, rn0, rn1, rbI, nle_t, nle_f, nlt_t, nlt_f, neq_t, neq_f, x_add, x_mul, x_sub, x_div, ↓x_rem, x_remN, setI_eq, setI_ne, setI_nk, setI_2, bn0, bn1, reduceCtorEq, w]; rfl
    · simp (disch := omega) only [↓znm_, ↓reduceIte, rn0, rn1, rbI, nle_t, nle_f, nlt_t, nlt_f, neq_t, neq_f, x_add, x_mul, x_sub, x_div, ↓x_rem, x_remN, setI_eq, setI_ne, setI_nk, setI_2, bn0, bn1, reduceCtorEq, w1, w2, ↓O0b, ↓G0_0b, ↓G0_1b, ↓G0_2b, ↓P0_2b, ↓G0_3b, ↓G0_4b, ↓G0_5b, ↓G0_6b, ↓P0_6b, ↓G0_7b, ↓G0_8b, ↓P0_8b, ↓G0_9b, ↓G0_10b, ↓G0_11b, ↓G0_12b, ↓O1b, ↓G1_0b, ↓P1_0b, ↓G1_1b, ↓G1_2b, ↓G1_3b, ↓G1_4b, ↓G1_5b, ↓P1_5b, ↓G1_6b, ↓G1_7b, ↓G1_8b, ↓G1_9b, ↓P1_9b, ↓G1_10b, ↓G1_11b, ↓P1_11b, ↓G1_12b, ↓P1_12b, ↓G1_13b, ↓P1_13b, ↓G1_14b, ↓P1_14b, ↓G1_15b, ↓G1_16b, ↓P1_16b, ↓G1_17b, ↓G1_18b, ↓P1_18b, ↓G1_19b, ↓O85b, ↓G85_0b, ↓P85_0b, ↓G85_1b, ↓P85_1b, ↓G85_2b, ↓P85_2b, ↓G85_3b, ↓A2b, ↓S2b, ↓N2b, ↓A3b, ↓S3b, ↓N3b, ↓A4b, ↓S4b, ↓N4b, ↓A5b, ↓A5m, ↓A5p, ↓A5mp, ↓A5pm, ↓A5pmp, ↓A5mpp, ↓A5pp, ↓S5b, ↓S5m, ↓S5p, ↓S5mp, ↓S5pm, ↓S5pmp, ↓S5mpp, ↓S5pp, ↓N5b, ↓A6b, ↓S6b, ↓N6b, ↓A7b, ↓S7b, ↓N7b, ↓A8b, ↓S8b, ↓N8b, ↓A9b, ↓S9b, ↓N9b, ↓A84b, ↓S84b, ↓N84b, ↓A86b, ↓S86b, ↓N86b, ↓A88b, ↓S88b, ↓N88b, ↓A89b, ↓S89b, ↓N89b, ↓R10b, ↓R16b, ↓R27b, ↓R83b, ↓R87b, ↓R71b, ↓P0_2n, A2b, S2b, A3b, S3b, A4b, S4b, A5b, S5b, A6b, S6b, A7b, S7b, A8b, S8b, A9b, S9b, A84b, S84b, A86b, S86b, A88b, S88b, A89b, S89b, R10b, R16b, R27b, R83b, R87b, R71b, h0]; rfl
  · rw [q]
    simp (disch := omega) only [↓znm_, ↓reduceIte, rn0, rn1, rbI, nle_t, nle_f, nlt_t, nlt_f, neq_t, neq_f, x_add, x_mul, x_sub, x_div, ↓x_rem, x_remN, setI_eq, setI_ne, setI_nk, setI_2, bn0, bn1, reduceCtorEq, ↓O0b, ↓G0_0b, ↓G0_1b, ↓G0_2b, ↓P0_2b, ↓G0_3b, ↓G0_4b, ↓G0_5b, ↓G0_6b, ↓P0_6b, ↓G0_7b, ↓G0_8b, ↓P0_8b, ↓G0_9b, ↓G0_10b, ↓G0_11b, ↓G0_12b, ↓O1b, ↓G1_0b, ↓P1_0b, ↓G1_1b, ↓G1_2b, ↓G1_3b, ↓G1_4b, ↓G1_5b, ↓P1_5b, ↓G1_6b, ↓G1_7b, ↓G1_8b, ↓G1_9b, ↓P1_9b, ↓G1_10b, ↓G1_11b, ↓P1_11b, ↓G1_12b, ↓P1_12b, ↓G1_13b, ↓P1_13b, ↓G1_14b, ↓P1_14b, ↓G1_15b, ↓G1_16b, ↓P1_16b, ↓G1_17b, ↓G1_18b, ↓P1_18b, ↓G1_19b, ↓O85b, ↓G85_0b, ↓P85_0b, ↓G85_1b, ↓P85_1b, ↓G85_2b, ↓P85_2b, ↓G85_3b, ↓A2b, ↓S2b, ↓N2b, ↓A3b, ↓S3b, ↓N3b, ↓A4b, ↓S4b, ↓N4b, ↓A5b, ↓A5m, ↓A5p, ↓A5mp, ↓A5pm, ↓A5pmp, ↓A5mpp, ↓A5pp, ↓S5b, ↓S5m, ↓S5p, ↓S5mp, ↓S5pm, ↓S5pmp, ↓S5mpp, ↓S5pp, ↓N5b, ↓A6b, ↓S6b, ↓N6b, ↓A7b, ↓S7b, ↓N7b, ↓A8b, ↓S8b, ↓N8b, ↓A9b, ↓S9b, ↓N9b, ↓A84b, ↓S84b, ↓N84b, ↓A86b, ↓S86b, ↓N86b, ↓A88b, ↓S88b, ↓N88b, ↓A89b, ↓S89b, ↓N89b, ↓R10b, ↓R16b, ↓R27b, ↓R83b, ↓R87b, ↓R71b, ↓P0_2n, A2b, S2b, A3b, S3b, A4b, S4b, A5b, S5b, A6b, S6b, A7b, S7b, A8b, S8b, A9b, S9b, A84b, S84b, A86b, S86b, A88b, S88b, A89b, S89b, R10b, R16b, R27b, R83b, R87b, R71b, h0]; rfl
theorem sub1 {x : Int32} {n : Nat} (hn : n < 2147483648) (h0 : ¬ x < nI 0) : (nI n - nI 1 < x) ↔ nI n ≤ x := by
  obtain ⟨j, hj, rfl⟩ := nI_of (x := x) h0
  cases n with
  | zero =>
    have e : (nI 0 - nI 1 : Int32) = -nI 1 := by decide
    rw [e]
    have e2 : (-nI 1 : Int32) < nI j ↔ True := by
      refine ⟨fun _ => trivial, fun _ => ?_⟩
      exact Int32.lt_of_lt_of_le (show (-nI 1 : Int32) < nI 0 by decide) ((nle (by omega) (by omega)).mpr (by omega))
    rw [e2]
    exact ⟨fun _ => (nle (by omega) (by omega)).mpr (by omega), fun _ => trivial⟩
  | succ n =>
    rw [x_sub (by omega), Nat.add_sub_cancel, nlt (by omega) (by omega), nle (by omega) (by omega)]
    omega
theorem m_inx {h : AH} {x : Int32} {n : Nat} (hn : n < 2147483648) : fX12_isIn N h x (nI 0) (nI n - nI 1) = some (bI (inR x n), h) := by
  rw [fX12_isIn]
  simp only [lit]
  rcases inR_c x (n := n) hn with q | ⟨j, hj, rfl, q⟩
  · rw [q]
    rcases inR_f q with w | ⟨w1, w2⟩
    · rw [if_pos w]; rfl
    · rw [if_neg w1, if_pos ((sub1 hn w1).mpr w2)]; rfl
  · rw [q]
    have a : ¬ nI j < nI 0 := fun q => by have := (nlt (by omega) (by omega)).mp q; omega
    rw [if_neg a, if_neg (fun w => by have := (nle (by omega) (by omega)).mp ((sub1 hn a).mp w); omega)]; rfl
theorem m_isM (hM : MR M R) (h6 : R 76 ≤ 6) (x : Int32) : fX12_isMaster N (enc z M) (z + 126) x = some (bI (inR x (R 76)), enc z M) := by
  have r := hM 76 (by omega)
  rw [fX12_isMaster]
  simp only [lit]
  rw [G126_0b, A127b (by omega), r, zc (m_inx N (by omega))]
  simp (disch := omega) only [↓znm_, ↓reduceIte, rn0, rn1, rbI, nle_t, nle_f, nlt_t, nlt_f, neq_t, neq_f, x_add, x_mul, x_sub, x_div, ↓x_rem, x_remN, setI_eq, setI_ne, setI_nk, setI_2, bn0, bn1, reduceCtorEq]
theorem m_isF (hM : MR M R) (h6 : R 78 ≤ 5) (x : Int32) : fX12_isFootman N (enc z M) (z + 126) x = some (bI (inR x (R 78)), enc z M) := by
  have r := hM 78 (by omega)
  rw [fX12_isFootman]
  simp only [lit]
  rw [G126_0b, A127b (by omega), r, zc (m_inx N (by omega))]
  simp (disch := omega) only [↓znm_, ↓reduceIte, rn0, rn1, rbI, nle_t, nle_f, nlt_t, nlt_f, neq_t, neq_f, x_add, x_mul, x_sub, x_div, ↓x_rem, x_remN, setI_eq, setI_ne, setI_nk, setI_2, bn0, bn1, reduceCtorEq]
theorem m_isFact {h : AH} (x : Int32) : fX12_isFact N h x = some (bI (inR x 8), h) := by
  rw [fX12_isFact]; simp only [lit]; simp (disch := omega) only [↓znm_, ↓reduceIte, rn0, rn1, rbI, nle_t, nle_f, nlt_t, nlt_f, neq_t, neq_f, x_add, x_mul, x_sub, x_div, ↓x_rem, x_remN, setI_eq, setI_ne, setI_nk, setI_2, bn0, bn1, reduceCtorEq, ↓zc (m_in N (n := 7) (by omega))]
theorem m_isSet {h : AH} (x : Int32) : fX12_isSet N h x = some (bI (inR x 256), h) := by
  rw [fX12_isSet]; simp only [lit]; simp (disch := omega) only [↓znm_, ↓reduceIte, rn0, rn1, rbI, nle_t, nle_f, nlt_t, nlt_f, neq_t, neq_f, x_add, x_mul, x_sub, x_div, ↓x_rem, x_remN, setI_eq, setI_ne, setI_nk, setI_2, bn0, bn1, reduceCtorEq, ↓zc (m_in N (n := 255) (by omega))]
theorem m_isTape {h : AH} (x : Int32) : fX12_isTape N h x = some (bI (inR x 6), h) := by
  rw [fX12_isTape]; simp only [lit]; simp (disch := omega) only [↓znm_, ↓reduceIte, rn0, rn1, rbI, nle_t, nle_f, nlt_t, nlt_f, neq_t, neq_f, x_add, x_mul, x_sub, x_div, ↓x_rem, x_remN, setI_eq, setI_ne, setI_nk, setI_2, bn0, bn1, reduceCtorEq, ↓zc (m_in N (n := 5) (by omega))]
theorem c_isFact {h : AH} (x : Int32) : fX11_isFact N h x = some (bI (inR x 8), h) := by
  rw [fX11_isFact]
  simp only [lit]
  rcases inR_c x (n := 8) (by omega) with q | ⟨j, hj, rfl, q⟩
  · rw [q]
    rcases inR_f q with w | ⟨w1, w2⟩
    · simp (disch := omega) only [↓znm_, ↓reduceIte, rn0, rn1, rbI, nle_t, nle_f, nlt_t, nlt_f, neq_t, neq_f, x_add, x_mul, x_sub, x_div, ↓x_rem, x_remN, setI_eq, setI_ne, setI_nk, setI_2, bn0, bn1, reduceCtorEq, w]; rfl
    · simp (disch := omega) only [↓znm_, ↓reduceIte, rn0, rn1, rbI, nle_t, nle_f, nlt_t, nlt_f, neq_t, neq_f, x_add, x_mul, x_sub, x_div, ↓x_rem, x_remN, setI_eq, setI_ne, setI_nk, setI_2, bn0, bn1, reduceCtorEq, w1, w2]; rfl
  · rw [q]; simp (disch := omega) only [↓znm_, ↓reduceIte, rn0, rn1, rbI, nle_t, nle_f, nlt_t, nlt_f, neq_t, neq_f, x_add, x_mul, x_sub, x_div, ↓x_rem, x_remN, setI_eq, setI_ne, setI_nk, setI_2, bn0, bn1, reduceCtorEq]; rfl
theorem c_isTape {h : AH} (x : Int32) : fX11_isTape N h x = some (bI (inR x 6), h) := by
  rw [fX11_isTape]
  simp only [lit]
  rcases inR_c x (n := 6) (by omega) with q | ⟨j, hj, rfl, q⟩
  · rw [q]
    rcases inR_f q with w | ⟨w1, w2⟩
    · simp (disch := omega) only [↓znm_, ↓reduceIte, rn0, rn1, rbI, nle_t, nle_f, nlt_t, nlt_f, neq_t, neq_f, x_add, x_mul, x_sub, x_div, ↓x_rem, x_remN, setI_eq, setI_ne, setI_nk, setI_2, bn0, bn1, reduceCtorEq, w]; rfl
    · simp (disch := omega) only [↓znm_, ↓reduceIte, rn0, rn1, rbI, nle_t, nle_f, nlt_t, nlt_f, neq_t, neq_f, x_add, x_mul, x_sub, x_div, ↓x_rem, x_remN, setI_eq, setI_ne, setI_nk, setI_2, bn0, bn1, reduceCtorEq, w1, w2]; rfl
  · rw [q]; simp (disch := omega) only [↓znm_, ↓reduceIte, rn0, rn1, rbI, nle_t, nle_f, nlt_t, nlt_f, neq_t, neq_f, x_add, x_mul, x_sub, x_div, ↓x_rem, x_remN, setI_eq, setI_ne, setI_nk, setI_2, bn0, bn1, reduceCtorEq]; rfl
theorem c_isSet {h : AH} (x : Int32) : fX11_isSet N h x = some (bI (inR x 256), h) := by
  rw [fX11_isSet]
  simp only [lit]
  rcases inR_c x (n := 256) (by omega) with q | ⟨j, hj, rfl, q⟩
  · rw [q]
    rcases inR_f q with w | ⟨w1, w2⟩
    · simp (disch := omega) only [↓znm_, ↓reduceIte, rn0, rn1, rbI, nle_t, nle_f, nlt_t, nlt_f, neq_t, neq_f, x_add, x_mul, x_sub, x_div, ↓x_rem, x_remN, setI_eq, setI_ne, setI_nk, setI_2, bn0, bn1, reduceCtorEq, w]; rfl
    · have w3 := ge_f w2 (by omega)
      simp (disch := omega) only [↓znm_, ↓reduceIte, rn0, rn1, rbI, nle_t, nle_f, nlt_t, nlt_f, neq_t, neq_f, x_add, x_mul, x_sub, x_div, ↓x_rem, x_remN, setI_eq, setI_ne, setI_nk, setI_2, bn0, bn1, reduceCtorEq, w1, w3.2.2]; rfl
  · rw [q]; simp (disch := omega) only [↓znm_, ↓reduceIte, rn0, rn1, rbI, nle_t, nle_f, nlt_t, nlt_f, neq_t, neq_f, x_add, x_mul, x_sub, x_div, ↓x_rem, x_remN, setI_eq, setI_ne, setI_nk, setI_2, bn0, bn1, reduceCtorEq]; rfl
theorem c_isPart {h : AH} (x : Int32) : fX11_isPart N h x = some (bI (inR x 2), h) := by
  rw [fX11_isPart]
  simp only [lit]
  rcases inR_c x (n := 2) (by omega) with q | ⟨j, hj, rfl, q⟩
  · have n0 : ¬ x = nI 0 := fun e => by rw [e] at q; revert q; decide
    have n1 : ¬ x = nI 1 := fun e => by rw [e] at q; revert q; decide
    rw [q]
    simp (disch := omega) only [↓znm_, ↓reduceIte, rn0, rn1, rbI, nle_t, nle_f, nlt_t, nlt_f, neq_t, neq_f, x_add, x_mul, x_sub, x_div, ↓x_rem, x_remN, setI_eq, setI_ne, setI_nk, setI_2, bn0, bn1, reduceCtorEq, n0, n1]; rfl
  · rw [q]
    rcases (show j = 0 ∨ j = 1 by omega) with rfl | rfl
    · simp (disch := omega) only [↓znm_, ↓reduceIte, rn0, rn1, rbI, nle_t, nle_f, nlt_t, nlt_f, neq_t, neq_f, x_add, x_mul, x_sub, x_div, ↓x_rem, x_remN, setI_eq, setI_ne, setI_nk, setI_2, bn0, bn1, reduceCtorEq]; rfl
    · simp (disch := omega) only [↓znm_, ↓reduceIte, rn0, rn1, rbI, nle_t, nle_f, nlt_t, nlt_f, neq_t, neq_f, x_add, x_mul, x_sub, x_div, ↓x_rem, x_remN, setI_eq, setI_ne, setI_nk, setI_2, bn0, bn1, reduceCtorEq]; rfl
theorem c_hasF (h0 : M.1 1 9 = nI (R 78)) (h6 : R 78 ≤ 5) (x : Int32) : fX6_hasFootman N (enc z M) (z + 1) x = some (bI (inR x (R 78)), enc z M) := by
  rw [fX6_hasFootman]
  simp only [lit]
  rcases inR_c x (n := R 78) (by omega) with q | ⟨j, hj, rfl, q⟩
  · rw [q]
    rcases inR_f q with w | ⟨w1, w2⟩
    · simp (disch := omega) only [↓znm_, ↓reduceIte, rn0, rn1, rbI, nle_t, nle_f, nlt_t, nlt_f, neq_t, neq_f, x_add, x_mul, x_sub, x_div, ↓x_rem, x_remN, setI_eq, setI_ne, setI_nk, setI_2, bn0, bn1, reduceCtorEq, w]; rfl
    · simp (disch := omega) only [↓znm_, ↓reduceIte, rn0, rn1, rbI, nle_t, nle_f, nlt_t, nlt_f, neq_t, neq_f, x_add, x_mul, x_sub, x_div, ↓x_rem, x_remN, setI_eq, setI_ne, setI_nk, setI_2, bn0, bn1, reduceCtorEq, w1, w2, ↓O0b, ↓G0_0b, ↓G0_1b, ↓G0_2b, ↓P0_2b, ↓G0_3b, ↓G0_4b, ↓G0_5b, ↓G0_6b, ↓P0_6b, ↓G0_7b, ↓G0_8b, ↓P0_8b, ↓G0_9b, ↓G0_10b, ↓G0_11b, ↓G0_12b, ↓O1b, ↓G1_0b, ↓P1_0b, ↓G1_1b, ↓G1_2b, ↓G1_3b, ↓G1_4b, ↓G1_5b, ↓P1_5b, ↓G1_6b, ↓G1_7b, ↓G1_8b, ↓G1_9b, ↓P1_9b, ↓G1_10b, ↓G1_11b, ↓P1_11b, ↓G1_12b, ↓P1_12b, ↓G1_13b, ↓P1_13b, ↓G1_14b, ↓P1_14b, ↓G1_15b, ↓G1_16b, ↓P1_16b, ↓G1_17b, ↓G1_18b, ↓P1_18b, ↓G1_19b, ↓O85b, ↓G85_0b, ↓P85_0b, ↓G85_1b, ↓P85_1b, ↓G85_2b, ↓P85_2b, ↓G85_3b, ↓A2b, ↓S2b, ↓N2b, ↓A3b, ↓S3b, ↓N3b, ↓A4b, ↓S4b, ↓N4b, ↓A5b, ↓A5m, ↓A5p, ↓A5mp, ↓A5pm, ↓A5pmp, ↓A5mpp, ↓A5pp, ↓S5b, ↓S5m, ↓S5p, ↓S5mp, ↓S5pm, ↓S5pmp, ↓S5mpp, ↓S5pp, ↓N5b, ↓A6b, ↓S6b, ↓N6b, ↓A7b, ↓S7b, ↓N7b, ↓A8b, ↓S8b, ↓N8b, ↓A9b, ↓S9b, ↓N9b, ↓A84b, ↓S84b, ↓N84b, ↓A86b, ↓S86b, ↓N86b, ↓A88b, ↓S88b, ↓N88b, ↓A89b, ↓S89b, ↓N89b, ↓R10b, ↓R16b, ↓R27b, ↓R83b, ↓R87b, ↓R71b, ↓P0_2n, A2b, S2b, A3b, S3b, A4b, S4b, A5b, S5b, A6b, S6b, A7b, S7b, A8b, S8b, A9b, S9b, A84b, S84b, A86b, S86b, A88b, S88b, A89b, S89b, R10b, R16b, R27b, R83b, R87b, R71b, h0]; rfl
  · rw [q]
    simp (disch := omega) only [↓znm_, ↓reduceIte, rn0, rn1, rbI, nle_t, nle_f, nlt_t, nlt_f, neq_t, neq_f, x_add, x_mul, x_sub, x_div, ↓x_rem, x_remN, setI_eq, setI_ne, setI_nk, setI_2, bn0, bn1, reduceCtorEq, ↓O0b, ↓G0_0b, ↓G0_1b, ↓G0_2b, ↓P0_2b, ↓G0_3b, ↓G0_4b, ↓G0_5b, ↓G0_6b, ↓P0_6b, ↓G0_7b, ↓G0_8b, ↓P0_8b, ↓G0_9b, ↓G0_10b, ↓G0_11b, ↓G0_12b, ↓O1b, ↓G1_0b, ↓P1_0b, ↓G1_1b, ↓G1_2b, ↓G1_3b, ↓G1_4b, ↓G1_5b, ↓P1_5b, ↓G1_6b, ↓G1_7b, ↓G1_8b, ↓G1_9b, ↓P1_9b, ↓G1_10b, ↓G1_11b, ↓P1_11b, ↓G1_12b, ↓P1_12b, ↓G1_13b, ↓P1_13b, ↓G1_14b, ↓P1_14b, ↓G1_15b, ↓G1_16b, ↓P1_16b, ↓G1_17b, ↓G1_18b, ↓P1_18b, ↓G1_19b, ↓O85b, ↓G85_0b, ↓P85_0b, ↓G85_1b, ↓P85_1b, ↓G85_2b, ↓P85_2b, ↓G85_3b, ↓A2b, ↓S2b, ↓N2b, ↓A3b, ↓S3b, ↓N3b, ↓A4b, ↓S4b, ↓N4b, ↓A5b, ↓A5m, ↓A5p, ↓A5mp, ↓A5pm, ↓A5pmp, ↓A5mpp, ↓A5pp, ↓S5b, ↓S5m, ↓S5p, ↓S5mp, ↓S5pm, ↓S5pmp, ↓S5mpp, ↓S5pp, ↓N5b, ↓A6b, ↓S6b, ↓N6b, ↓A7b, ↓S7b, ↓N7b, ↓A8b, ↓S8b, ↓N8b, ↓A9b, ↓S9b, ↓N9b, ↓A84b, ↓S84b, ↓N84b, ↓A86b, ↓S86b, ↓N86b, ↓A88b, ↓S88b, ↓N88b, ↓A89b, ↓S89b, ↓N89b, ↓R10b, ↓R16b, ↓R27b, ↓R83b, ↓R87b, ↓R71b, ↓P0_2n, A2b, S2b, A3b, S3b, A4b, S4b, A5b, S5b, A6b, S6b, A7b, S7b, A8b, S8b, A9b, S9b, A84b, S84b, A86b, S86b, A88b, S88b, A89b, S89b, R10b, R16b, R27b, R83b, R87b, R71b, h0]; rfl
theorem s_tell (h : IV M R T hc) (x1 x2 : Int32) : ST z (fun h => fX11_tell N h z x1 x2) (fun h => fX12_tell N h (z + 126) x1 x2) M := by
  have h0 := h
  obtain ⟨hC, hM, hW, _⟩ := h
  have h6 := hW.1
  have e1 := c_hasx (z := z) N (R := R) hC.1 h6 x1
  have e2 := c_isFact N (h := enc z M) x2
  have e3 := m_isM (z := z) N hM h6 x1
  have e4 := m_isFact N (h := enc z M) x2
  rcases inR_c x1 (n := R 76) (by omega) with q1 | ⟨p, hp, rfl, q1⟩
  · rw [q1] at e1 e3
    refine ST_same h0 (r := -nI 1) ?_ ?_
    · show fX11_tell N (enc z M) z x1 x2 = _
      rw [fX11_tell]; simp only [lit]; simp (disch := omega) only [↓znm_, ↓reduceIte, rn0, rn1, rbI, nle_t, nle_f, nlt_t, nlt_f, neq_t, neq_f, x_add, x_mul, x_sub, x_div, ↓x_rem, x_remN, setI_eq, setI_ne, setI_nk, setI_2, bn0, bn1, reduceCtorEq, ↓O0b, ↓G0_0b, ↓G0_1b, ↓G0_2b, ↓P0_2b, ↓G0_3b, ↓G0_4b, ↓G0_5b, ↓G0_6b, ↓P0_6b, ↓G0_7b, ↓G0_8b, ↓P0_8b, ↓G0_9b, ↓G0_10b, ↓G0_11b, ↓G0_12b, ↓O1b, ↓G1_0b, ↓P1_0b, ↓G1_1b, ↓G1_2b, ↓G1_3b, ↓G1_4b, ↓G1_5b, ↓P1_5b, ↓G1_6b, ↓G1_7b, ↓G1_8b, ↓G1_9b, ↓P1_9b, ↓G1_10b, ↓G1_11b, ↓P1_11b, ↓G1_12b, ↓P1_12b, ↓G1_13b, ↓P1_13b, ↓G1_14b, ↓P1_14b, ↓G1_15b, ↓G1_16b, ↓P1_16b, ↓G1_17b, ↓G1_18b, ↓P1_18b, ↓G1_19b, ↓O85b, ↓G85_0b, ↓P85_0b, ↓G85_1b, ↓P85_1b, ↓G85_2b, ↓P85_2b, ↓G85_3b, ↓A2b, ↓S2b, ↓N2b, ↓A3b, ↓S3b, ↓N3b, ↓A4b, ↓S4b, ↓N4b, ↓A5b, ↓A5m, ↓A5p, ↓A5mp, ↓A5pm, ↓A5pmp, ↓A5mpp, ↓A5pp, ↓S5b, ↓S5m, ↓S5p, ↓S5mp, ↓S5pm, ↓S5pmp, ↓S5mpp, ↓S5pp, ↓N5b, ↓A6b, ↓S6b, ↓N6b, ↓A7b, ↓S7b, ↓N7b, ↓A8b, ↓S8b, ↓N8b, ↓A9b, ↓S9b, ↓N9b, ↓A84b, ↓S84b, ↓N84b, ↓A86b, ↓S86b, ↓N86b, ↓A88b, ↓S88b, ↓N88b, ↓A89b, ↓S89b, ↓N89b, ↓R10b, ↓R16b, ↓R27b, ↓R83b, ↓R87b, ↓R71b, ↓P0_2n, A2b, S2b, A3b, S3b, A4b, S4b, A5b, S5b, A6b, S6b, A7b, S7b, A8b, S8b, A9b, S9b, A84b, S84b, A86b, S86b, A88b, S88b, A89b, S89b, R10b, R16b, R27b, R83b, R87b, R71b, ↓zc e1]
    · show fX12_tell N (enc z M) (z + 126) x1 x2 = _
      rw [fX12_tell]; simp only [lit]; simp (disch := omega) only [↓znm_, ↓reduceIte, rn0, rn1, rbI, nle_t, nle_f, nlt_t, nlt_f, neq_t, neq_f, x_add, x_mul, x_sub, x_div, ↓x_rem, x_remN, setI_eq, setI_ne, setI_nk, setI_2, bn0, bn1, reduceCtorEq, ↓O126b, ↓G126_0b, ↓G126_1b, ↓G126_2b, ↓G126_3b, ↓P126_3b, ↓G126_4b, ↓G126_5b, ↓P126_5b, ↓G126_6b, ↓G126_7b, ↓G126_8b, ↓P126_8b, ↓G126_9b, ↓G126_10b, ↓P126_10b, ↓G126_11b, ↓P126_11b, ↓G126_12b, ↓P126_12b, ↓G126_13b, ↓P126_13b, ↓G126_14b, ↓P126_14b, ↓G126_15b, ↓P126_15b, ↓G126_16b, ↓G126_17b, ↓G126_18b, ↓G126_19b, ↓G126_20b, ↓G126_21b, ↓G126_22b, ↓G126_23b, ↓P126_23b, ↓G126_24b, ↓G126_25b, ↓G126_26b, ↓G126_27b, ↓A127b, ↓A127m, ↓A127p, ↓A127mp, ↓A127pm, ↓A127pmp, ↓A127mpp, ↓A127pp, ↓S127b, ↓S127m, ↓S127p, ↓S127mp, ↓S127pm, ↓S127pmp, ↓S127mpp, ↓S127pp, ↓N127b, ↓A128b, ↓S128b, ↓N128b, ↓A129b, ↓S129b, ↓N129b, ↓A130b, ↓S130b, ↓N130b, ↓A131b, ↓A131m, ↓A131p, ↓A131mp, ↓A131pm, ↓A131pmp, ↓A131mpp, ↓A131pp, ↓S131b, ↓S131m, ↓S131p, ↓S131mp, ↓S131pm, ↓S131pmp, ↓S131mpp, ↓S131pp, ↓N131b, ↓A132b, ↓S132b, ↓N132b, ↓A133b, ↓S133b, ↓N133b, ↓A134b, ↓S134b, ↓N134b, ↓A135b, ↓S135b, ↓N135b, ↓A136b, ↓S136b, ↓N136b, ↓A137b, ↓A137m, ↓A137p, ↓A137mp, ↓A137pm, ↓A137pmp, ↓A137mpp, ↓A137pp, ↓S137b, ↓S137m, ↓S137p, ↓S137mp, ↓S137pm, ↓S137pmp, ↓S137mpp, ↓S137pp, ↓N137b, ↓A138b, ↓S138b, ↓N138b, ↓A139b, ↓A139m, ↓A139p, ↓A139mp, ↓A139pm, ↓A139pmp, ↓A139mpp, ↓A139pp, ↓S139b, ↓S139m, ↓S139p, ↓S139mp, ↓S139pm, ↓S139pmp, ↓S139mpp, ↓S139pp, ↓N139b, ↓A140b, ↓S140b, ↓N140b, ↓A141b, ↓S141b, ↓N141b, ↓A142b, ↓S142b, ↓N142b, ↓A143b, ↓A143m, ↓A143p, ↓A143mp, ↓A143pm, ↓A143pmp, ↓A143mpp, ↓A143pp, ↓S143b, ↓S143m, ↓S143p, ↓S143mp, ↓S143pm, ↓S143pmp, ↓S143mpp, ↓S143pp, ↓A144b, ↓S144b, A127b, S127b, A128b, S128b, A129b, S129b, A130b, S130b, A131b, S131b, A132b, S132b, A133b, S133b, A134b, S134b, A135b, S135b, A136b, S136b, A137b, S137b, A138b, S138b, A139b, S139b, A140b, S140b, A141b, S141b, A142b, S142b, A143b, S143b, A144b, S144b, ↓P126_3n, ↓P126_12n, ↓P126_12o, ↓zc e3]
  · rcases inR_c x2 (n := 8) (by omega) with q2 | ⟨f, hf, rfl, q2⟩
    · rw [q1] at e1 e3
      rw [q2] at e2 e4
      refine ST_same h0 (r := -nI 1) ?_ ?_
      · show fX11_tell N (enc z M) z (nI p) x2 = _
        rw [fX11_tell]; simp only [lit]; simp (disch := omega) only [↓znm_, ↓reduceIte, rn0, rn1, rbI, nle_t, nle_f, nlt_t, nlt_f, neq_t, neq_f, x_add, x_mul, x_sub, x_div, ↓x_rem, x_remN, setI_eq, setI_ne, setI_nk, setI_2, bn0, bn1, reduceCtorEq, ↓O0b, ↓G0_0b, ↓G0_1b, ↓G0_2b, ↓P0_2b, ↓G0_3b, ↓G0_4b, ↓G0_5b, ↓G0_6b, ↓P0_6b, ↓G0_7b, ↓G0_8b, ↓P0_8b, ↓G0_9b, ↓G0_10b, ↓G0_11b, ↓G0_12b, ↓O1b, ↓G1_0b, ↓P1_0b, ↓G1_1b, ↓G1_2b, ↓G1_3b, ↓G1_4b, ↓G1_5b, ↓P1_5b, ↓G1_6b, ↓G1_7b, ↓G1_8b, ↓G1_9b, ↓P1_9b, ↓G1_10b, ↓G1_11b, ↓P1_11b, ↓G1_12b, ↓P1_12b, ↓G1_13b, ↓P1_13b, ↓G1_14b, ↓P1_14b, ↓G1_15b, ↓G1_16b, ↓P1_16b, ↓G1_17b, ↓G1_18b, ↓P1_18b, ↓G1_19b, ↓O85b, ↓G85_0b, ↓P85_0b, ↓G85_1b, ↓P85_1b, ↓G85_2b, ↓P85_2b, ↓G85_3b, ↓A2b, ↓S2b, ↓N2b, ↓A3b, ↓S3b, ↓N3b, ↓A4b, ↓S4b, ↓N4b, ↓A5b, ↓A5m, ↓A5p, ↓A5mp, ↓A5pm, ↓A5pmp, ↓A5mpp, ↓A5pp, ↓S5b, ↓S5m, ↓S5p, ↓S5mp, ↓S5pm, ↓S5pmp, ↓S5mpp, ↓S5pp, ↓N5b, ↓A6b, ↓S6b, ↓N6b, ↓A7b, ↓S7b, ↓N7b, ↓A8b, ↓S8b, ↓N8b, ↓A9b, ↓S9b, ↓N9b, ↓A84b, ↓S84b, ↓N84b, ↓A86b, ↓S86b, ↓N86b, ↓A88b, ↓S88b, ↓N88b, ↓A89b, ↓S89b, ↓N89b, ↓R10b, ↓R16b, ↓R27b, ↓R83b, ↓R87b, ↓R71b, ↓P0_2n, A2b, S2b, A3b, S3b, A4b, S4b, A5b, S5b, A6b, S6b, A7b, S7b, A8b, S8b, A9b, S9b, A84b, S84b, A86b, S86b, A88b, S88b, A89b, S89b, R10b, R16b, R27b, R83b, R87b, R71b, ↓zc e1, ↓zc e2]
      · show fX12_tell N (enc z M) (z + 126) (nI p) x2 = _
        rw [fX12_tell]; simp only [lit]; simp (disch := omega) only [↓znm_, ↓reduceIte, rn0, rn1, rbI, nle_t, nle_f, nlt_t, nlt_f, neq_t, neq_f, x_add, x_mul, x_sub, x_div, ↓x_rem, x_remN, setI_eq, setI_ne, setI_nk, setI_2, bn0, bn1, reduceCtorEq, ↓O126b, ↓G126_0b, ↓G126_1b, ↓G126_2b, ↓G126_3b, ↓P126_3b, ↓G126_4b, ↓G126_5b, ↓P126_5b, ↓G126_6b, ↓G126_7b, ↓G126_8b, ↓P126_8b, ↓G126_9b, ↓G126_10b, ↓P126_10b, ↓G126_11b, ↓P126_11b, ↓G126_12b, ↓P126_12b, ↓G126_13b, ↓P126_13b, ↓G126_14b, ↓P126_14b, ↓G126_15b, ↓P126_15b, ↓G126_16b, ↓G126_17b, ↓G126_18b, ↓G126_19b, ↓G126_20b, ↓G126_21b, ↓G126_22b, ↓G126_23b, ↓P126_23b, ↓G126_24b, ↓G126_25b, ↓G126_26b, ↓G126_27b, ↓A127b, ↓A127m, ↓A127p, ↓A127mp, ↓A127pm, ↓A127pmp, ↓A127mpp, ↓A127pp, ↓S127b, ↓S127m, ↓S127p, ↓S127mp, ↓S127pm, ↓S127pmp, ↓S127mpp, ↓S127pp, ↓N127b, ↓A128b, ↓S128b, ↓N128b, ↓A129b, ↓S129b, ↓N129b, ↓A130b, ↓S130b, ↓N130b, ↓A131b, ↓A131m, ↓A131p, ↓A131mp, ↓A131pm, ↓A131pmp, ↓A131mpp, ↓A131pp, ↓S131b, ↓S131m, ↓S131p, ↓S131mp, ↓S131pm, ↓S131pmp, ↓S131mpp, ↓S131pp, ↓N131b, ↓A132b, ↓S132b, ↓N132b, ↓A133b, ↓S133b, ↓N133b, ↓A134b, ↓S134b, ↓N134b, ↓A135b, ↓S135b, ↓N135b, ↓A136b, ↓S136b, ↓N136b, ↓A137b, ↓A137m, ↓A137p, ↓A137mp, ↓A137pm, ↓A137pmp, ↓A137mpp, ↓A137pp, ↓S137b, ↓S137m, ↓S137p, ↓S137mp, ↓S137pm, ↓S137pmp, ↓S137mpp, ↓S137pp, ↓N137b, ↓A138b, ↓S138b, ↓N138b, ↓A139b, ↓A139m, ↓A139p, ↓A139mp, ↓A139pm, ↓A139pmp, ↓A139mpp, ↓A139pp, ↓S139b, ↓S139m, ↓S139p, ↓S139mp, ↓S139pm, ↓S139pmp, ↓S139mpp, ↓S139pp, ↓N139b, ↓A140b, ↓S140b, ↓N140b, ↓A141b, ↓S141b, ↓N141b, ↓A142b, ↓S142b, ↓N142b, ↓A143b, ↓A143m, ↓A143p, ↓A143mp, ↓A143pm, ↓A143pmp, ↓A143mpp, ↓A143pp, ↓S143b, ↓S143m, ↓S143p, ↓S143mp, ↓S143pm, ↓S143pmp, ↓S143mpp, ↓S143pp, ↓A144b, ↓S144b, A127b, S127b, A128b, S128b, A129b, S129b, A130b, S130b, A131b, S131b, A132b, S132b, A133b, S133b, A134b, S134b, A135b, S135b, A136b, S136b, A137b, S137b, A138b, S138b, A139b, S139b, A140b, S140b, A141b, S141b, A142b, S142b, A143b, S143b, A144b, S144b, ↓P126_3n, ↓P126_12n, ↓P126_12o, ↓zc e3, ↓zc e4]
    · rw [q1] at e1
      rw [q2] at e2
      have k1 : M.1 4 p = nI (R (7 * p + 2)) := (hC.2.1 p (by omega)).2.2
      have k2 := hM (7 * p + 2) (by omega)
      have w := (hW.2.2.2.2.2.2.2.2.1 p (by omega)).2.2.1
      have hx : R (7 * p + 2) ||| 2 ^ f < 256 := or_lt8 w (by
        have : 2 ^ f < 2 ^ 8 := Nat.pow_lt_pow_right (by omega) hf
        omega)
      have hM1 : MR (setI M 4 p (nI (R (7 * p + 2) ||| 2 ^ f))) R := fun j hj => by rw [setI_nk (by omega)]; exact hM j hj
      have e3 := m_isM (z := z) N hM1 h6 (nI p)
      have e4 := m_isFact N (h := enc z (setI M 4 p (nI (R (7 * p + 2) ||| 2 ^ f)))) (nI f)
      rw [q1] at e3
      rw [q2] at e4
      generalize hxx : R (7 * p + 2) ||| 2 ^ f = x at hx e3 e4 hM1
      have hMf : MR (setI (setI M 4 p (nI x)) 127 (7 * p + 2) (nI x)) (updN R (7 * p + 2) x) := by
        intro j' hj'
        have k' := hM j' hj'
        (simp only [setI_at, updN, true_and]; (repeat' split) <;> first | exact k' | rfl | (exfalso; omega))
      have e5 := m_mindOf (z := z) N hMf (i := p) (by omega)
      rw [updN_eq] at e5
      refine ⟨nI x, setI M 4 p (nI x), setI (setI M 4 p (nI x)) 127 (7 * p + 2) (nI x), ?_, ?_, updN R (7 * p + 2) x, T, hc, IV_U h0 (FU_trans (FU_set (by omega)) (FU_set (by omega))) ?_ hMf (WF_mind hW (by omega) hx)⟩
      · show fX11_tell N (enc z M) z (nI p) (nI f) = _
        rw [fX11_tell]; simp only [lit]; simp (disch := omega) only [↓znm_, ↓reduceIte, rn0, rn1, rbI, nle_t, nle_f, nlt_t, nlt_f, neq_t, neq_f, x_add, x_mul, x_sub, x_div, ↓x_rem, x_remN, setI_eq, setI_ne, setI_nk, setI_2, bn0, bn1, reduceCtorEq, ↓O0b, ↓G0_0b, ↓G0_1b, ↓G0_2b, ↓P0_2b, ↓G0_3b, ↓G0_4b, ↓G0_5b, ↓G0_6b, ↓P0_6b, ↓G0_7b, ↓G0_8b, ↓P0_8b, ↓G0_9b, ↓G0_10b, ↓G0_11b, ↓G0_12b, ↓O1b, ↓G1_0b, ↓P1_0b, ↓G1_1b, ↓G1_2b, ↓G1_3b, ↓G1_4b, ↓G1_5b, ↓P1_5b, ↓G1_6b, ↓G1_7b, ↓G1_8b, ↓G1_9b, ↓P1_9b, ↓G1_10b, ↓G1_11b, ↓P1_11b, ↓G1_12b, ↓P1_12b, ↓G1_13b, ↓P1_13b, ↓G1_14b, ↓P1_14b, ↓G1_15b, ↓G1_16b, ↓P1_16b, ↓G1_17b, ↓G1_18b, ↓P1_18b, ↓G1_19b, ↓O85b, ↓G85_0b, ↓P85_0b, ↓G85_1b, ↓P85_1b, ↓G85_2b, ↓P85_2b, ↓G85_3b, ↓A2b, ↓S2b, ↓N2b, ↓A3b, ↓S3b, ↓N3b, ↓A4b, ↓S4b, ↓N4b, ↓A5b, ↓A5m, ↓A5p, ↓A5mp, ↓A5pm, ↓A5pmp, ↓A5mpp, ↓A5pp, ↓S5b, ↓S5m, ↓S5p, ↓S5mp, ↓S5pm, ↓S5pmp, ↓S5mpp, ↓S5pp, ↓N5b, ↓A6b, ↓S6b, ↓N6b, ↓A7b, ↓S7b, ↓N7b, ↓A8b, ↓S8b, ↓N8b, ↓A9b, ↓S9b, ↓N9b, ↓A84b, ↓S84b, ↓N84b, ↓A86b, ↓S86b, ↓N86b, ↓A88b, ↓S88b, ↓N88b, ↓A89b, ↓S89b, ↓N89b, ↓R10b, ↓R16b, ↓R27b, ↓R83b, ↓R87b, ↓R71b, ↓P0_2n, A2b, S2b, A3b, S3b, A4b, S4b, A5b, S5b, A6b, S6b, A7b, S7b, A8b, S8b, A9b, S9b, A84b, S84b, A86b, S86b, A88b, S88b, A89b, S89b, R10b, R16b, R27b, R83b, R87b, R71b, ↓zc e1, ↓zc e2, k1, x_sh1, x_or, hxx]
      · show fX12_tell N (enc z _) (z + 126) (nI p) (nI f) = _
        rw [fX12_tell]; simp only [lit]; simp (disch := omega) only [↓znm_, ↓reduceIte, rn0, rn1, rbI, nle_t, nle_f, nlt_t, nlt_f, neq_t, neq_f, x_add, x_mul, x_sub, x_div, ↓x_rem, x_remN, setI_eq, setI_ne, setI_nk, setI_2, bn0, bn1, reduceCtorEq, ↓O126b, ↓G126_0b, ↓G126_1b, ↓G126_2b, ↓G126_3b, ↓P126_3b, ↓G126_4b, ↓G126_5b, ↓P126_5b, ↓G126_6b, ↓G126_7b, ↓G126_8b, ↓P126_8b, ↓G126_9b, ↓G126_10b, ↓P126_10b, ↓G126_11b, ↓P126_11b, ↓G126_12b, ↓P126_12b, ↓G126_13b, ↓P126_13b, ↓G126_14b, ↓P126_14b, ↓G126_15b, ↓P126_15b, ↓G126_16b, ↓G126_17b, ↓G126_18b, ↓G126_19b, ↓G126_20b, ↓G126_21b, ↓G126_22b, ↓G126_23b, ↓P126_23b, ↓G126_24b, ↓G126_25b, ↓G126_26b, ↓G126_27b, ↓A127b, ↓A127m, ↓A127p, ↓A127mp, ↓A127pm, ↓A127pmp, ↓A127mpp, ↓A127pp, ↓S127b, ↓S127m, ↓S127p, ↓S127mp, ↓S127pm, ↓S127pmp, ↓S127mpp, ↓S127pp, ↓N127b, ↓A128b, ↓S128b, ↓N128b, ↓A129b, ↓S129b, ↓N129b, ↓A130b, ↓S130b, ↓N130b, ↓A131b, ↓A131m, ↓A131p, ↓A131mp, ↓A131pm, ↓A131pmp, ↓A131mpp, ↓A131pp, ↓S131b, ↓S131m, ↓S131p, ↓S131mp, ↓S131pm, ↓S131pmp, ↓S131mpp, ↓S131pp, ↓N131b, ↓A132b, ↓S132b, ↓N132b, ↓A133b, ↓S133b, ↓N133b, ↓A134b, ↓S134b, ↓N134b, ↓A135b, ↓S135b, ↓N135b, ↓A136b, ↓S136b, ↓N136b, ↓A137b, ↓A137m, ↓A137p, ↓A137mp, ↓A137pm, ↓A137pmp, ↓A137mpp, ↓A137pp, ↓S137b, ↓S137m, ↓S137p, ↓S137mp, ↓S137pm, ↓S137pmp, ↓S137mpp, ↓S137pp, ↓N137b, ↓A138b, ↓S138b, ↓N138b, ↓A139b, ↓A139m, ↓A139p, ↓A139mp, ↓A139pm, ↓A139pmp, ↓A139mpp, ↓A139pp, ↓S139b, ↓S139m, ↓S139p, ↓S139mp, ↓S139pm, ↓S139pmp, ↓S139mpp, ↓S139pp, ↓N139b, ↓A140b, ↓S140b, ↓N140b, ↓A141b, ↓S141b, ↓N141b, ↓A142b, ↓S142b, ↓N142b, ↓A143b, ↓A143m, ↓A143p, ↓A143mp, ↓A143pm, ↓A143pmp, ↓A143mpp, ↓A143pp, ↓S143b, ↓S143m, ↓S143p, ↓S143mp, ↓S143pm, ↓S143pmp, ↓S143mpp, ↓S143pp, ↓A144b, ↓S144b, A127b, S127b, A128b, S128b, A129b, S129b, A130b, S130b, A131b, S131b, A132b, S132b, A133b, S133b, A134b, S134b, A135b, S135b, A136b, S136b, A137b, S137b, A138b, S138b, A139b, S139b, A140b, S140b, A141b, S141b, A142b, S142b, A143b, S143b, A144b, S144b, ↓P126_3n, ↓P126_12n, ↓P126_12o, ↓zc e3, ↓zc e4, k2, x_sh1, x_or, hxx, ↓zc e5]
      · clear hMf
        obtain ⟨h1, h2, h3, h4, h5, h6, h7, h8, h9, h10, h11, h12, h13, h14, h15, h16⟩ := hC
        refine ⟨?_, fun p' hp' => ⟨?_, ?_, ?_⟩, fun p' hp' q' hq' => ?_, ?_, fun i' hi' => ⟨?_, ?_, ?_⟩, ?_, fun f' hf' => ?_, ?_, ?_, ?_, ?_, fun r' hr' c' hc' => ?_, ?_, fun r' hr' c' hc' => ?_, ?_, fun r' hr' c' hc' => ?_⟩
        · (simp only [setI_at, updN, true_and]; (repeat' split) <;> first | exact h1 | rfl | (exfalso; omega))
        · (simp only [setI_at, updN, true_and]; (repeat' split) <;> first | exact (h2 p' hp').1 | rfl | (exfalso; omega))
        · (simp only [setI_at, updN, true_and]; (repeat' split) <;> first | exact (h2 p' hp').2.1 | rfl | (exfalso; omega))
        · (simp only [setI_at, updN, true_and]; (repeat' split) <;> first | exact (h2 p' hp').2.2 | rfl | (exfalso; omega))
        · (simp only [setI_at, updN, true_and]; (repeat' split) <;> first | exact h3 p' hp' q' hq' | rfl | (exfalso; omega))
        · (simp only [setI_at, updN, true_and]; (repeat' split) <;> first | exact h4 | rfl | (exfalso; omega))
        · (simp only [setI_at, updN, true_and]; (repeat' split) <;> first | exact (h5 i' hi').1 | rfl | (exfalso; omega))
        · (simp only [setI_at, updN, true_and]; (repeat' split) <;> first | exact (h5 i' hi').2.1 | rfl | (exfalso; omega))
        · (simp only [setI_at, updN, true_and]; (repeat' split) <;> first | exact (h5 i' hi').2.2 | rfl | (exfalso; omega))
        · (simp only [setI_at, updN, true_and]; (repeat' split) <;> first | exact h6 | rfl | (exfalso; omega))
        · (simp only [setI_at, updN, true_and]; (repeat' split) <;> first | exact h7 f' hf' | rfl | (exfalso; omega))
        · rw [outsN_congr (R := R) (fun f' hf' => by simp only [updN]; (repeat' split) <;> omega)]
          (simp only [setI_at, updN, true_and]; (repeat' split) <;> first | exact h8 | rfl | (exfalso; omega))
        · (simp only [setI_at, updN, true_and]; (repeat' split) <;> first | exact h9 | rfl | (exfalso; omega))
        · (simp only [setI_at, updN, true_and]; (repeat' split) <;> first | exact h10 | rfl | (exfalso; omega))
        · (simp only [setI_at, updN, true_and]; (repeat' split) <;> first | exact h11 | rfl | (exfalso; omega))
        · (simp only [setI_at, updN, true_and]; (repeat' split) <;> first | exact h12 r' hr' c' hc' | rfl | (exfalso; omega))
        · (simp only [setI_at, updN, true_and]; (repeat' split) <;> first | exact h13 | rfl | (exfalso; omega))
        · (simp only [setI_at, updN, true_and]; (repeat' split) <;> first | exact h14 r' hr' c' hc' | rfl | (exfalso; omega))
        · (simp only [setI_at, updN, true_and]; (repeat' split) <;> first | exact h15 | rfl | (exfalso; omega))
        · (simp only [setI_at, updN, true_and]; (repeat' split) <;> first | exact h16 r' hr' c' hc' | rfl | (exfalso; omega))
theorem s_mind (h : IV M R T hc) (x1 x2 : Int32) : ST z (fun h => fX11_mind N h z x1 x2) (fun h => fX12_mind N h (z + 126) x1 x2) M := by
  have h0 := h
  obtain ⟨hC, hM, hW, _⟩ := h
  have h6 := hW.1
  have e1 := c_hasx (z := z) N (R := R) hC.1 h6 x1
  have e2 := c_isSet N (h := enc z M) x2
  have e3 := m_isM (z := z) N hM h6 x1
  have e4 := m_isSet N (h := enc z M) x2
  rcases inR_c x1 (n := R 76) (by omega) with q1 | ⟨p, hp, rfl, q1⟩
  · rw [q1] at e1 e3
    refine ST_same h0 (r := -nI 1) ?_ ?_
    · show fX11_mind N (enc z M) z x1 x2 = _
      rw [fX11_mind]; simp only [lit]; simp (disch := omega) only [↓znm_, ↓reduceIte, rn0, rn1, rbI, nle_t, nle_f, nlt_t, nlt_f, neq_t, neq_f, x_add, x_mul, x_sub, x_div, ↓x_rem, x_remN, setI_eq, setI_ne, setI_nk, setI_2, bn0, bn1, reduceCtorEq, ↓O0b, ↓G0_0b, ↓G0_1b, ↓G0_2b, ↓P0_2b, ↓G0_3b, ↓G0_4b, ↓G0_5b, ↓G0_6b, ↓P0_6b, ↓G0_7b, ↓G0_8b, ↓P0_8b, ↓G0_9b, ↓G0_10b, ↓G0_11b, ↓G0_12b, ↓O1b, ↓G1_0b, ↓P1_0b, ↓G1_1b, ↓G1_2b, ↓G1_3b, ↓G1_4b, ↓G1_5b, ↓P1_5b, ↓G1_6b, ↓G1_7b, ↓G1_8b, ↓G1_9b, ↓P1_9b, ↓G1_10b, ↓G1_11b, ↓P1_11b, ↓G1_12b, ↓P1_12b, ↓G1_13b, ↓P1_13b, ↓G1_14b, ↓P1_14b, ↓G1_15b, ↓G1_16b, ↓P1_16b, ↓G1_17b, ↓G1_18b, ↓P1_18b, ↓G1_19b, ↓O85b, ↓G85_0b, ↓P85_0b, ↓G85_1b, ↓P85_1b, ↓G85_2b, ↓P85_2b, ↓G85_3b, ↓A2b, ↓S2b, ↓N2b, ↓A3b, ↓S3b, ↓N3b, ↓A4b, ↓S4b, ↓N4b, ↓A5b, ↓A5m, ↓A5p, ↓A5mp, ↓A5pm, ↓A5pmp, ↓A5mpp, ↓A5pp, ↓S5b, ↓S5m, ↓S5p, ↓S5mp, ↓S5pm, ↓S5pmp, ↓S5mpp, ↓S5pp, ↓N5b, ↓A6b, ↓S6b, ↓N6b, ↓A7b, ↓S7b, ↓N7b, ↓A8b, ↓S8b, ↓N8b, ↓A9b, ↓S9b, ↓N9b, ↓A84b, ↓S84b, ↓N84b, ↓A86b, ↓S86b, ↓N86b, ↓A88b, ↓S88b, ↓N88b, ↓A89b, ↓S89b, ↓N89b, ↓R10b, ↓R16b, ↓R27b, ↓R83b, ↓R87b, ↓R71b, ↓P0_2n, A2b, S2b, A3b, S3b, A4b, S4b, A5b, S5b, A6b, S6b, A7b, S7b, A8b, S8b, A9b, S9b, A84b, S84b, A86b, S86b, A88b, S88b, A89b, S89b, R10b, R16b, R27b, R83b, R87b, R71b, ↓zc e1]
    · show fX12_mind N (enc z M) (z + 126) x1 x2 = _
      rw [fX12_mind]; simp only [lit]; simp (disch := omega) only [↓znm_, ↓reduceIte, rn0, rn1, rbI, nle_t, nle_f, nlt_t, nlt_f, neq_t, neq_f, x_add, x_mul, x_sub, x_div, ↓x_rem, x_remN, setI_eq, setI_ne, setI_nk, setI_2, bn0, bn1, reduceCtorEq, ↓O126b, ↓G126_0b, ↓G126_1b, ↓G126_2b, ↓G126_3b, ↓P126_3b, ↓G126_4b, ↓G126_5b, ↓P126_5b, ↓G126_6b, ↓G126_7b, ↓G126_8b, ↓P126_8b, ↓G126_9b, ↓G126_10b, ↓P126_10b, ↓G126_11b, ↓P126_11b, ↓G126_12b, ↓P126_12b, ↓G126_13b, ↓P126_13b, ↓G126_14b, ↓P126_14b, ↓G126_15b, ↓P126_15b, ↓G126_16b, ↓G126_17b, ↓G126_18b, ↓G126_19b, ↓G126_20b, ↓G126_21b, ↓G126_22b, ↓G126_23b, ↓P126_23b, ↓G126_24b, ↓G126_25b, ↓G126_26b, ↓G126_27b, ↓A127b, ↓A127m, ↓A127p, ↓A127mp, ↓A127pm, ↓A127pmp, ↓A127mpp, ↓A127pp, ↓S127b, ↓S127m, ↓S127p, ↓S127mp, ↓S127pm, ↓S127pmp, ↓S127mpp, ↓S127pp, ↓N127b, ↓A128b, ↓S128b, ↓N128b, ↓A129b, ↓S129b, ↓N129b, ↓A130b, ↓S130b, ↓N130b, ↓A131b, ↓A131m, ↓A131p, ↓A131mp, ↓A131pm, ↓A131pmp, ↓A131mpp, ↓A131pp, ↓S131b, ↓S131m, ↓S131p, ↓S131mp, ↓S131pm, ↓S131pmp, ↓S131mpp, ↓S131pp, ↓N131b, ↓A132b, ↓S132b, ↓N132b, ↓A133b, ↓S133b, ↓N133b, ↓A134b, ↓S134b, ↓N134b, ↓A135b, ↓S135b, ↓N135b, ↓A136b, ↓S136b, ↓N136b, ↓A137b, ↓A137m, ↓A137p, ↓A137mp, ↓A137pm, ↓A137pmp, ↓A137mpp, ↓A137pp, ↓S137b, ↓S137m, ↓S137p, ↓S137mp, ↓S137pm, ↓S137pmp, ↓S137mpp, ↓S137pp, ↓N137b, ↓A138b, ↓S138b, ↓N138b, ↓A139b, ↓A139m, ↓A139p, ↓A139mp, ↓A139pm, ↓A139pmp, ↓A139mpp, ↓A139pp, ↓S139b, ↓S139m, ↓S139p, ↓S139mp, ↓S139pm, ↓S139pmp, ↓S139mpp, ↓S139pp, ↓N139b, ↓A140b, ↓S140b, ↓N140b, ↓A141b, ↓S141b, ↓N141b, ↓A142b, ↓S142b, ↓N142b, ↓A143b, ↓A143m, ↓A143p, ↓A143mp, ↓A143pm, ↓A143pmp, ↓A143mpp, ↓A143pp, ↓S143b, ↓S143m, ↓S143p, ↓S143mp, ↓S143pm, ↓S143pmp, ↓S143mpp, ↓S143pp, ↓A144b, ↓S144b, A127b, S127b, A128b, S128b, A129b, S129b, A130b, S130b, A131b, S131b, A132b, S132b, A133b, S133b, A134b, S134b, A135b, S135b, A136b, S136b, A137b, S137b, A138b, S138b, A139b, S139b, A140b, S140b, A141b, S141b, A142b, S142b, A143b, S143b, A144b, S144b, ↓P126_3n, ↓P126_12n, ↓P126_12o, ↓zc e3]
  · rcases inR_c x2 (n := 256) (by omega) with q2 | ⟨x, hx, rfl, q2⟩
    · rw [q1] at e1 e3
      rw [q2] at e2 e4
      refine ST_same h0 (r := -nI 2) ?_ ?_
      · show fX11_mind N (enc z M) z (nI p) x2 = _
        rw [fX11_mind]; simp only [lit]; simp (disch := omega) only [↓znm_, ↓reduceIte, rn0, rn1, rbI, nle_t, nle_f, nlt_t, nlt_f, neq_t, neq_f, x_add, x_mul, x_sub, x_div, ↓x_rem, x_remN, setI_eq, setI_ne, setI_nk, setI_2, bn0, bn1, reduceCtorEq, ↓O0b, ↓G0_0b, ↓G0_1b, ↓G0_2b, ↓P0_2b, ↓G0_3b, ↓G0_4b, ↓G0_5b, ↓G0_6b, ↓P0_6b, ↓G0_7b, ↓G0_8b, ↓P0_8b, ↓G0_9b, ↓G0_10b, ↓G0_11b, ↓G0_12b, ↓O1b, ↓G1_0b, ↓P1_0b, ↓G1_1b, ↓G1_2b, ↓G1_3b, ↓G1_4b, ↓G1_5b, ↓P1_5b, ↓G1_6b, ↓G1_7b, ↓G1_8b, ↓G1_9b, ↓P1_9b, ↓G1_10b, ↓G1_11b, ↓P1_11b, ↓G1_12b, ↓P1_12b, ↓G1_13b, ↓P1_13b, ↓G1_14b, ↓P1_14b, ↓G1_15b, ↓G1_16b, ↓P1_16b, ↓G1_17b, ↓G1_18b, ↓P1_18b, ↓G1_19b, ↓O85b, ↓G85_0b, ↓P85_0b, ↓G85_1b, ↓P85_1b, ↓G85_2b, ↓P85_2b, ↓G85_3b, ↓A2b, ↓S2b, ↓N2b, ↓A3b, ↓S3b, ↓N3b, ↓A4b, ↓S4b, ↓N4b, ↓A5b, ↓A5m, ↓A5p, ↓A5mp, ↓A5pm, ↓A5pmp, ↓A5mpp, ↓A5pp, ↓S5b, ↓S5m, ↓S5p, ↓S5mp, ↓S5pm, ↓S5pmp, ↓S5mpp, ↓S5pp, ↓N5b, ↓A6b, ↓S6b, ↓N6b, ↓A7b, ↓S7b, ↓N7b, ↓A8b, ↓S8b, ↓N8b, ↓A9b, ↓S9b, ↓N9b, ↓A84b, ↓S84b, ↓N84b, ↓A86b, ↓S86b, ↓N86b, ↓A88b, ↓S88b, ↓N88b, ↓A89b, ↓S89b, ↓N89b, ↓R10b, ↓R16b, ↓R27b, ↓R83b, ↓R87b, ↓R71b, ↓P0_2n, A2b, S2b, A3b, S3b, A4b, S4b, A5b, S5b, A6b, S6b, A7b, S7b, A8b, S8b, A9b, S9b, A84b, S84b, A86b, S86b, A88b, S88b, A89b, S89b, R10b, R16b, R27b, R83b, R87b, R71b, ↓zc e1, ↓zc e2]
      · show fX12_mind N (enc z M) (z + 126) (nI p) x2 = _
        rw [fX12_mind]; simp only [lit]; simp (disch := omega) only [↓znm_, ↓reduceIte, rn0, rn1, rbI, nle_t, nle_f, nlt_t, nlt_f, neq_t, neq_f, x_add, x_mul, x_sub, x_div, ↓x_rem, x_remN, setI_eq, setI_ne, setI_nk, setI_2, bn0, bn1, reduceCtorEq, ↓O126b, ↓G126_0b, ↓G126_1b, ↓G126_2b, ↓G126_3b, ↓P126_3b, ↓G126_4b, ↓G126_5b, ↓P126_5b, ↓G126_6b, ↓G126_7b, ↓G126_8b, ↓P126_8b, ↓G126_9b, ↓G126_10b, ↓P126_10b, ↓G126_11b, ↓P126_11b, ↓G126_12b, ↓P126_12b, ↓G126_13b, ↓P126_13b, ↓G126_14b, ↓P126_14b, ↓G126_15b, ↓P126_15b, ↓G126_16b, ↓G126_17b, ↓G126_18b, ↓G126_19b, ↓G126_20b, ↓G126_21b, ↓G126_22b, ↓G126_23b, ↓P126_23b, ↓G126_24b, ↓G126_25b, ↓G126_26b, ↓G126_27b, ↓A127b, ↓A127m, ↓A127p, ↓A127mp, ↓A127pm, ↓A127pmp, ↓A127mpp, ↓A127pp, ↓S127b, ↓S127m, ↓S127p, ↓S127mp, ↓S127pm, ↓S127pmp, ↓S127mpp, ↓S127pp, ↓N127b, ↓A128b, ↓S128b, ↓N128b, ↓A129b, ↓S129b, ↓N129b, ↓A130b, ↓S130b, ↓N130b, ↓A131b, ↓A131m, ↓A131p, ↓A131mp, ↓A131pm, ↓A131pmp, ↓A131mpp, ↓A131pp, ↓S131b, ↓S131m, ↓S131p, ↓S131mp, ↓S131pm, ↓S131pmp, ↓S131mpp, ↓S131pp, ↓N131b, ↓A132b, ↓S132b, ↓N132b, ↓A133b, ↓S133b, ↓N133b, ↓A134b, ↓S134b, ↓N134b, ↓A135b, ↓S135b, ↓N135b, ↓A136b, ↓S136b, ↓N136b, ↓A137b, ↓A137m, ↓A137p, ↓A137mp, ↓A137pm, ↓A137pmp, ↓A137mpp, ↓A137pp, ↓S137b, ↓S137m, ↓S137p, ↓S137mp, ↓S137pm, ↓S137pmp, ↓S137mpp, ↓S137pp, ↓N137b, ↓A138b, ↓S138b, ↓N138b, ↓A139b, ↓A139m, ↓A139p, ↓A139mp, ↓A139pm, ↓A139pmp, ↓A139mpp, ↓A139pp, ↓S139b, ↓S139m, ↓S139p, ↓S139mp, ↓S139pm, ↓S139pmp, ↓S139mpp, ↓S139pp, ↓N139b, ↓A140b, ↓S140b, ↓N140b, ↓A141b, ↓S141b, ↓N141b, ↓A142b, ↓S142b, ↓N142b, ↓A143b, ↓A143m, ↓A143p, ↓A143mp, ↓A143pm, ↓A143pmp, ↓A143mpp, ↓A143pp, ↓S143b, ↓S143m, ↓S143p, ↓S143mp, ↓S143pm, ↓S143pmp, ↓S143mpp, ↓S143pp, ↓A144b, ↓S144b, A127b, S127b, A128b, S128b, A129b, S129b, A130b, S130b, A131b, S131b, A132b, S132b, A133b, S133b, A134b, S134b, A135b, S135b, A136b, S136b, A137b, S137b, A138b, S138b, A139b, S139b, A140b, S140b, A141b, S141b, A142b, S142b, A143b, S143b, A144b, S144b, ↓P126_3n, ↓P126_12n, ↓P126_12o, ↓zc e3, ↓zc e4]
    · rw [q1] at e1
      rw [q2] at e2
      have k1 : M.1 4 p = nI (R (7 * p + 2)) := (hC.2.1 p (by omega)).2.2
      have hM1 : MR (setI M 4 p (nI x)) R := fun j hj => by rw [setI_nk (by omega)]; exact hM j hj
      have e3 := m_isM (z := z) N hM1 h6 (nI p)
      have e4 := m_isSet N (h := enc z (setI M 4 p (nI x))) (nI x)
      have e5 := m_mindOf (z := z) N hM1 (i := p) (by omega)
      rw [q1] at e3
      rw [q2] at e4
      refine ⟨nI (R (7 * p + 2)), setI M 4 p (nI x), setI (setI M 4 p (nI x)) 127 (7 * p + 2) (nI x), ?_, ?_, updN R (7 * p + 2) x, T, hc, IV_U h0 (FU_trans (FU_set (by omega)) (FU_set (by omega))) ?_ ?_ (WF_mind hW (by omega) hx)⟩
      · show fX11_mind N (enc z M) z (nI p) (nI x) = _
        rw [fX11_mind]; simp only [lit]; simp (disch := omega) only [↓znm_, ↓reduceIte, rn0, rn1, rbI, nle_t, nle_f, nlt_t, nlt_f, neq_t, neq_f, x_add, x_mul, x_sub, x_div, ↓x_rem, x_remN, setI_eq, setI_ne, setI_nk, setI_2, bn0, bn1, reduceCtorEq, ↓O0b, ↓G0_0b, ↓G0_1b, ↓G0_2b, ↓P0_2b, ↓G0_3b, ↓G0_4b, ↓G0_5b, ↓G0_6b, ↓P0_6b, ↓G0_7b, ↓G0_8b, ↓P0_8b, ↓G0_9b, ↓G0_10b, ↓G0_11b, ↓G0_12b, ↓O1b, ↓G1_0b, ↓P1_0b, ↓G1_1b, ↓G1_2b, ↓G1_3b, ↓G1_4b, ↓G1_5b, ↓P1_5b, ↓G1_6b, ↓G1_7b, ↓G1_8b, ↓G1_9b, ↓P1_9b, ↓G1_10b, ↓G1_11b, ↓P1_11b, ↓G1_12b, ↓P1_12b, ↓G1_13b, ↓P1_13b, ↓G1_14b, ↓P1_14b, ↓G1_15b, ↓G1_16b, ↓P1_16b, ↓G1_17b, ↓G1_18b, ↓P1_18b, ↓G1_19b, ↓O85b, ↓G85_0b, ↓P85_0b, ↓G85_1b, ↓P85_1b, ↓G85_2b, ↓P85_2b, ↓G85_3b, ↓A2b, ↓S2b, ↓N2b, ↓A3b, ↓S3b, ↓N3b, ↓A4b, ↓S4b, ↓N4b, ↓A5b, ↓A5m, ↓A5p, ↓A5mp, ↓A5pm, ↓A5pmp, ↓A5mpp, ↓A5pp, ↓S5b, ↓S5m, ↓S5p, ↓S5mp, ↓S5pm, ↓S5pmp, ↓S5mpp, ↓S5pp, ↓N5b, ↓A6b, ↓S6b, ↓N6b, ↓A7b, ↓S7b, ↓N7b, ↓A8b, ↓S8b, ↓N8b, ↓A9b, ↓S9b, ↓N9b, ↓A84b, ↓S84b, ↓N84b, ↓A86b, ↓S86b, ↓N86b, ↓A88b, ↓S88b, ↓N88b, ↓A89b, ↓S89b, ↓N89b, ↓R10b, ↓R16b, ↓R27b, ↓R83b, ↓R87b, ↓R71b, ↓P0_2n, A2b, S2b, A3b, S3b, A4b, S4b, A5b, S5b, A6b, S6b, A7b, S7b, A8b, S8b, A9b, S9b, A84b, S84b, A86b, S86b, A88b, S88b, A89b, S89b, R10b, R16b, R27b, R83b, R87b, R71b, ↓zc e1, ↓zc e2, k1]
      · show fX12_mind N (enc z _) (z + 126) (nI p) (nI x) = _
        rw [fX12_mind]; simp only [lit]; simp (disch := omega) only [↓znm_, ↓reduceIte, rn0, rn1, rbI, nle_t, nle_f, nlt_t, nlt_f, neq_t, neq_f, x_add, x_mul, x_sub, x_div, ↓x_rem, x_remN, setI_eq, setI_ne, setI_nk, setI_2, bn0, bn1, reduceCtorEq, ↓O126b, ↓G126_0b, ↓G126_1b, ↓G126_2b, ↓G126_3b, ↓P126_3b, ↓G126_4b, ↓G126_5b, ↓P126_5b, ↓G126_6b, ↓G126_7b, ↓G126_8b, ↓P126_8b, ↓G126_9b, ↓G126_10b, ↓P126_10b, ↓G126_11b, ↓P126_11b, ↓G126_12b, ↓P126_12b, ↓G126_13b, ↓P126_13b, ↓G126_14b, ↓P126_14b, ↓G126_15b, ↓P126_15b, ↓G126_16b, ↓G126_17b, ↓G126_18b, ↓G126_19b, ↓G126_20b, ↓G126_21b, ↓G126_22b, ↓G126_23b, ↓P126_23b, ↓G126_24b, ↓G126_25b, ↓G126_26b, ↓G126_27b, ↓A127b, ↓A127m, ↓A127p, ↓A127mp, ↓A127pm, ↓A127pmp, ↓A127mpp, ↓A127pp, ↓S127b, ↓S127m, ↓S127p, ↓S127mp, ↓S127pm, ↓S127pmp, ↓S127mpp, ↓S127pp, ↓N127b, ↓A128b, ↓S128b, ↓N128b, ↓A129b, ↓S129b, ↓N129b, ↓A130b, ↓S130b, ↓N130b, ↓A131b, ↓A131m, ↓A131p, ↓A131mp, ↓A131pm, ↓A131pmp, ↓A131mpp, ↓A131pp, ↓S131b, ↓S131m, ↓S131p, ↓S131mp, ↓S131pm, ↓S131pmp, ↓S131mpp, ↓S131pp, ↓N131b, ↓A132b, ↓S132b, ↓N132b, ↓A133b, ↓S133b, ↓N133b, ↓A134b, ↓S134b, ↓N134b, ↓A135b, ↓S135b, ↓N135b, ↓A136b, ↓S136b, ↓N136b, ↓A137b, ↓A137m, ↓A137p, ↓A137mp, ↓A137pm, ↓A137pmp, ↓A137mpp, ↓A137pp, ↓S137b, ↓S137m, ↓S137p, ↓S137mp, ↓S137pm, ↓S137pmp, ↓S137mpp, ↓S137pp, ↓N137b, ↓A138b, ↓S138b, ↓N138b, ↓A139b, ↓A139m, ↓A139p, ↓A139mp, ↓A139pm, ↓A139pmp, ↓A139mpp, ↓A139pp, ↓S139b, ↓S139m, ↓S139p, ↓S139mp, ↓S139pm, ↓S139pmp, ↓S139mpp, ↓S139pp, ↓N139b, ↓A140b, ↓S140b, ↓N140b, ↓A141b, ↓S141b, ↓N141b, ↓A142b, ↓S142b, ↓N142b, ↓A143b, ↓A143m, ↓A143p, ↓A143mp, ↓A143pm, ↓A143pmp, ↓A143mpp, ↓A143pp, ↓S143b, ↓S143m, ↓S143p, ↓S143mp, ↓S143pm, ↓S143pmp, ↓S143mpp, ↓S143pp, ↓A144b, ↓S144b, A127b, S127b, A128b, S128b, A129b, S129b, A130b, S130b, A131b, S131b, A132b, S132b, A133b, S133b, A134b, S134b, A135b, S135b, A136b, S136b, A137b, S137b, A138b, S138b, A139b, S139b, A140b, S140b, A141b, S141b, A142b, S142b, A143b, S143b, A144b, S144b, ↓P126_3n, ↓P126_12n, ↓P126_12o, ↓zc e3, ↓zc e4, ↓zc e5]
      · skip
        obtain ⟨h1, h2, h3, h4, h5, h6, h7, h8, h9, h10, h11, h12, h13, h14, h15, h16⟩ := hC
        refine ⟨?_, fun p' hp' => ⟨?_, ?_, ?_⟩, fun p' hp' q' hq' => ?_, ?_, fun i' hi' => ⟨?_, ?_, ?_⟩, ?_, fun f' hf' => ?_, ?_, ?_, ?_, ?_, fun r' hr' c' hc' => ?_, ?_, fun r' hr' c' hc' => ?_, ?_, fun r' hr' c' hc' => ?_⟩
        · (simp only [setI_at, updN, true_and]; (repeat' split) <;> first | exact h1 | rfl | (exfalso; omega))
        · (simp only [setI_at, updN, true_and]; (repeat' split) <;> first | exact (h2 p' hp').1 | rfl | (exfalso; omega))
        · (simp only [setI_at, updN, true_and]; (repeat' split) <;> first | exact (h2 p' hp').2.1 | rfl | (exfalso; omega))
        · (simp only [setI_at, updN, true_and]; (repeat' split) <;> first | exact (h2 p' hp').2.2 | rfl | (exfalso; omega))
        · (simp only [setI_at, updN, true_and]; (repeat' split) <;> first | exact h3 p' hp' q' hq' | rfl | (exfalso; omega))
        · (simp only [setI_at, updN, true_and]; (repeat' split) <;> first | exact h4 | rfl | (exfalso; omega))
        · (simp only [setI_at, updN, true_and]; (repeat' split) <;> first | exact (h5 i' hi').1 | rfl | (exfalso; omega))
        · (simp only [setI_at, updN, true_and]; (repeat' split) <;> first | exact (h5 i' hi').2.1 | rfl | (exfalso; omega))
        · (simp only [setI_at, updN, true_and]; (repeat' split) <;> first | exact (h5 i' hi').2.2 | rfl | (exfalso; omega))
        · (simp only [setI_at, updN, true_and]; (repeat' split) <;> first | exact h6 | rfl | (exfalso; omega))
        · (simp only [setI_at, updN, true_and]; (repeat' split) <;> first | exact h7 f' hf' | rfl | (exfalso; omega))
        · rw [outsN_congr (R := R) (fun f' hf' => by simp only [updN]; (repeat' split) <;> omega)]
          (simp only [setI_at, updN, true_and]; (repeat' split) <;> first | exact h8 | rfl | (exfalso; omega))
        · (simp only [setI_at, updN, true_and]; (repeat' split) <;> first | exact h9 | rfl | (exfalso; omega))
        · (simp only [setI_at, updN, true_and]; (repeat' split) <;> first | exact h10 | rfl | (exfalso; omega))
        · (simp only [setI_at, updN, true_and]; (repeat' split) <;> first | exact h11 | rfl | (exfalso; omega))
        · (simp only [setI_at, updN, true_and]; (repeat' split) <;> first | exact h12 r' hr' c' hc' | rfl | (exfalso; omega))
        · (simp only [setI_at, updN, true_and]; (repeat' split) <;> first | exact h13 | rfl | (exfalso; omega))
        · (simp only [setI_at, updN, true_and]; (repeat' split) <;> first | exact h14 r' hr' c' hc' | rfl | (exfalso; omega))
        · (simp only [setI_at, updN, true_and]; (repeat' split) <;> first | exact h15 | rfl | (exfalso; omega))
        · (simp only [setI_at, updN, true_and]; (repeat' split) <;> first | exact h16 r' hr' c' hc' | rfl | (exfalso; omega))
      · skip
        intro j' hj'
        have k' := hM j' hj'
        (simp only [setI_at, updN, true_and]; (repeat' split) <;> first | exact k' | rfl | (exfalso; omega))
end
