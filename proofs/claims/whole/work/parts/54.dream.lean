/-! dreams: minds that are only asked about, the deeds that they do, what they know -/
def dnB (R D : Nat → Nat) (i : Nat) : Bool := decide (dif (R (42 + 3 * i + 1)) (D (R (42 + 3 * i))) = 0)
def dnF (R D : Nat → Nat) : Nat := mkN (dnB R D) (R 77)
def knN (D : Nat → Nat) : Nat → Nat
  | 0 => 0
  | n + 1 => knN D n + pc (D n)
theorem knN_le {D : Nat → Nat} : ∀ n, knN D n ≤ 8 * n := by
  intro n
  induction n with
  | zero => exact Nat.le_refl _
  | succ n ih =>
    have := pc_le (D n) 8
    rw [knN]
    unfold pc
    omega
theorem mkN_lt8 {b : Nat → Bool} {n : Nat} (h : n ≤ 8) : mkN b n < 256 := Nat.lt_of_lt_of_le (mkN_lt b n) (Nat.pow_le_pow_right (n := 2) (by omega) h)
/-- the class's dream -/
def QD (M0 M : PM) (D : Nat → Nat) : Prop := FS 89 M0 M ∧ ∀ p, p < 6 → M.1 89 p = nI (D p)
/-- the model's row as it is asked about, and its copy -/
def FG (M M' : PM) : Prop := M'.2 = M.2 ∧ ∀ c j, ¬ (c = 127 ∨ c = 128 ∨ c = 133 ∨ c = 134 ∨ (c = 126 ∧ 10 ≤ j ∧ j ≤ 15)) → M'.1 c j = M.1 c j
theorem FG_refl {M : PM} : FG M M := ⟨rfl, fun _ _ _ => rfl⟩
theorem FG_trans {M M' M'' : PM} (h : FG M M') (h' : FG M' M'') : FG M M'' := ⟨h'.1.trans h.1, fun c j a => (h'.2 c j a).trans (h.2 c j a)⟩
theorem FG_7 {M M' : PM} (h : F7 M M') : FG M M' := ⟨h.1, fun c j q => h.2 c j (by omega)⟩
theorem FU_G {M M' : PM} (h : FG M M') : FU M M' := ⟨by rw [h.1], fun c j q => h.2 c j (by omega)⟩
theorem HT_G {M M' : PM} {T : TT} {hc : Nat} (hF : FG M M') (h : HT M T hc) : HT M' T hc := HT_e (fun c j q => hF.2 c j (by omega)) h
def QG (M0 M : PM) (R D : Nat → Nat) (d : Nat) : Prop := FG M0 M ∧ (∀ j, j < 140 → M.1 128 j = nI (R j)) ∧ MR M (wm R D d)
theorem IV_G {M M1 M2 : PM} {R : Nat → Nat} {T : TT} {hc : Nat} (h : IV M R T hc) (h1 : FS 89 M M1) (h2 : FG M1 M2) (hR : MR M2 R) : IV M2 R T hc := by
  have hF := FU_trans (FU_S (Or.inr rfl) h1) (FU_G h2)
  refine IV_U h hF (CR_F (fun c j q1 q2 => ?_) h.1) hR h.2.2.1
  rw [h2.2 c j (by omega), h1.2 c j (by omega)]
theorem ST_G {α : Type} {z : Nat} {M M1 M2 : PM} {R : Nat → Nat} {T : TT} {hc : Nat} {f g : AH → Option (α × AH)} {r : α} (h : IV M R T hc) (h1 : f (enc z M) = some (r, enc z M1)) (h2 : g (enc z M1) = some (r, enc z M2)) (hF : FS 89 M M1) (hF2 : FG M1 M2) (hR : MR M2 R) : ST z f g M := ⟨r, M1, M2, h1, h2, R, T, hc, IV_G h hF hF2 hR⟩
theorem CR_S {M M1 : PM} {R : Nat → Nat} (hF : FS 89 M M1) (h : CR M 1 R) : CR M1 1 R := CR_F (fun c j q1 q2 => hF.2 c j (by omega)) h
section
variable {z : Nat} (N : Nat) {R : Nat → Nat} {T : TT} {hc a : Nat}
theorem c_dream {M : PM} : ∃ M', fX11_dreamOfNow N (enc z M) z = some ((), enc z M') ∧ FS 89 M M' ∧ ∀ p, p < 6 → M'.1 89 p = M.1 4 p := by
  have e := e_copyI (z := z) (M := M) (a := 4) (b := 89) (n0 := 6) (n1 := 6) (sp := nI 0) (dp := nI 0) (n := nI 6) rfl rfl (by decide)
  rw [nclamp (i := 0) (by omega), nclamp (i := 6) (by omega)] at e
  refine ⟨cpyI M 4 89 0 0 6, ?_, ⟨rfl, fun c j q => ?_⟩, fun p hp => ?_⟩
  · rw [fX11_dreamOfNow]; simp only [lit]; simp (disch := omega) only [↓znm_, ↓reduceIte, rn0, rn1, rbI, nle_t, nle_f, nlt_t, nlt_f, neq_t, neq_f, x_add, x_mul, x_sub, x_div, ↓x_rem, x_remN, setI_eq, setI_ne, setI_nk, setI_2, bn0, bn1, reduceCtorEq, ↓O0b, ↓G0_0b, ↓G0_1b, ↓G0_2b, ↓P0_2b, ↓G0_3b, ↓G0_4b, ↓G0_5b, ↓G0_6b, ↓P0_6b, ↓G0_7b, ↓G0_8b, ↓P0_8b, ↓G0_9b, ↓G0_10b, ↓G0_11b, ↓G0_12b, ↓O1b, ↓G1_0b, ↓P1_0b, ↓G1_1b, ↓G1_2b, ↓G1_3b, ↓G1_4b, ↓G1_5b, ↓P1_5b, ↓G1_6b, ↓G1_7b, ↓G1_8b, ↓G1_9b, ↓P1_9b, ↓G1_10b, ↓G1_11b, ↓P1_11b, ↓G1_12b, ↓P1_12b, ↓G1_13b, ↓P1_13b, ↓G1_14b, ↓P1_14b, ↓G1_15b, ↓G1_16b, ↓P1_16b, ↓G1_17b, ↓G1_18b, ↓P1_18b, ↓G1_19b, ↓O85b, ↓G85_0b, ↓P85_0b, ↓G85_1b, ↓P85_1b, ↓G85_2b, ↓P85_2b, ↓G85_3b, ↓A2b, ↓S2b, ↓N2b, ↓A3b, ↓S3b, ↓N3b, ↓A4b, ↓S4b, ↓N4b, ↓A5b, ↓A5m, ↓A5p, ↓A5mp, ↓A5pm, ↓A5pmp, ↓A5mpp, ↓A5pp, ↓S5b, ↓S5m, ↓S5p, ↓S5mp, ↓S5pm, ↓S5pmp, ↓S5mpp, ↓S5pp, ↓N5b, ↓A6b, ↓S6b, ↓N6b, ↓A7b, ↓S7b, ↓N7b, ↓A8b, ↓S8b, ↓N8b, ↓A9b, ↓S9b, ↓N9b, ↓A84b, ↓S84b, ↓N84b, ↓A86b, ↓S86b, ↓N86b, ↓A88b, ↓S88b, ↓N88b, ↓A89b, ↓S89b, ↓N89b, ↓R10b, ↓R16b, ↓R27b, ↓R83b, ↓R87b, ↓R71b, ↓P0_2n, A2b, S2b, A3b, S3b, A4b, S4b, A5b, S5b, A6b, S6b, A7b, S7b, A8b, S8b, A9b, S9b, A84b, S84b, A86b, S86b, A88b, S88b, A89b, S89b, R10b, R16b, R27b, R83b, R87b, R71b, ↓bnd e]
  · show (if c = 89 then _ else M.1 c j) = _
    rw [if_neg (by omega)]
  · show (if 89 = 89 then va_cpy (M.1 4) (M.1 89) 0 0 6 p else M.1 89 p) = _
    rw [if_pos rfl]; unfold va_cpy; rw [if_pos (by omega), Nat.zero_add, Nat.sub_zero]
theorem c_dreamQ {M : PM} (hC : CR M 1 R) : ∃ M', fX11_dreamOfNow N (enc z M) z = some ((), enc z M') ∧ QD M M' (fun p => R (7 * p + 2)) := by
  obtain ⟨M', g1, g2, g3⟩ := c_dream (z := z) N (M := M)
  exact ⟨M', g1, g2, fun p hp => by rw [g3 p hp]; exact (hC.2.1 p hp).2.2⟩
theorem c_doneL (ha : a = 4 ∨ a = 89) {M : PM} (hC : CR M 1 R) (hW : WF R hc) {D : Nat → Nat} (hr : ∀ p, p < 6 → M.1 a p = nI (D p)) : ∀ m i, i ≤ R 77 → R 77 - i < m → zfix (fun _ _ _ _ _ => none) (bX6_doneWith_4 N) m (enc z M) (z + 1) (z + a) (nI (mkN (dnB R D) i)) (nI i) = some (nI (dnF R D), enc z M) := by
  have h6 := hW.1
  obtain ⟨c1, c2, c3, c4, c5, c6, c7, c8, c9, c10, c11, c12, c13, c14, c15, c16⟩ := id hC
  obtain ⟨w1, w2, w3, w4, w5, w6, w7, w8, w9, w10, w11, w12, w13, w14⟩ := id hW
  have c4 : M.1 1 5 = nI (R 77) := c4
  intro m
  induction m with
  | zero => intro i _ h; omega
  | succ m ih =>
    intro i hi hm
    rw [zfix_succ, bX6_doneWith_4]
    simp only [lit]
    by_cases h : i = R 77
    · subst h
      simp (disch := omega) only [↓znm_, ↓reduceIte, rn0, rn1, rbI, nle_t, nle_f, nlt_t, nlt_f, neq_t, neq_f, x_add, x_mul, x_sub, x_div, ↓x_rem, x_remN, setI_eq, setI_ne, setI_nk, setI_2, bn0, bn1, reduceCtorEq, ↓O0b, ↓G0_0b, ↓G0_1b, ↓G0_2b, ↓P0_2b, ↓G0_3b, ↓G0_4b, ↓G0_5b, ↓G0_6b, ↓P0_6b, ↓G0_7b, ↓G0_8b, ↓P0_8b, ↓G0_9b, ↓G0_10b, ↓G0_11b, ↓G0_12b, ↓O1b, ↓G1_0b, ↓P1_0b, ↓G1_1b, ↓G1_2b, ↓G1_3b, ↓G1_4b, ↓G1_5b, ↓P1_5b, ↓G1_6b, ↓G1_7b, ↓G1_8b, ↓G1_9b, ↓P1_9b, ↓G1_10b, ↓G1_11b, ↓P1_11b, ↓G1_12b, ↓P1_12b, ↓G1_13b, ↓P1_13b, ↓G1_14b, ↓P1_14b, ↓G1_15b, ↓G1_16b, ↓P1_16b, ↓G1_17b, ↓G1_18b, ↓P1_18b, ↓G1_19b, ↓O85b, ↓G85_0b, ↓P85_0b, ↓G85_1b, ↓P85_1b, ↓G85_2b, ↓P85_2b, ↓G85_3b, ↓A2b, ↓S2b, ↓N2b, ↓A3b, ↓S3b, ↓N3b, ↓A4b, ↓S4b, ↓N4b, ↓A5b, ↓A5m, ↓A5p, ↓A5mp, ↓A5pm, ↓A5pmp, ↓A5mpp, ↓A5pp, ↓S5b, ↓S5m, ↓S5p, ↓S5mp, ↓S5pm, ↓S5pmp, ↓S5mpp, ↓S5pp, ↓N5b, ↓A6b, ↓S6b, ↓N6b, ↓A7b, ↓S7b, ↓N7b, ↓A8b, ↓S8b, ↓N8b, ↓A9b, ↓S9b, ↓N9b, ↓A84b, ↓S84b, ↓N84b, ↓A86b, ↓S86b, ↓N86b, ↓A88b, ↓S88b, ↓N88b, ↓A89b, ↓S89b, ↓N89b, ↓R10b, ↓R16b, ↓R27b, ↓R83b, ↓R87b, ↓R71b, ↓P0_2n, A2b, S2b, A3b, S3b, A4b, S4b, A5b, S5b, A6b, S6b, A7b, S7b, A8b, S8b, A9b, S9b, A84b, S84b, A86b, S86b, A88b, S88b, A89b, S89b, R10b, R16b, R27b, R83b, R87b, R71b, c4]
      rfl
    · have k := w10 i (by omega)
      have d1 : M.1 6 i = nI (R (42 + 3 * i)) := (c5 i (by omega)).1
      have d2 : M.1 7 i = nI (R (42 + 3 * i + 1)) := (c5 i (by omega)).2.1
      have e1 := c_has (z := z) N (R := R) c1 h6 (p := R (42 + 3 * i)) (by omega)
      rw [decide_eq_true k.1] at e1
      have r := hr (R (42 + 3 * i)) (by omega)
      have nxt := ih (i + 1) (by omega) (by omega)
      have hl : dif (R (42 + 3 * i + 1)) (D (R (42 + 3 * i))) < 256 := dif_lt k.2.1
      by_cases hq : dif (R (42 + 3 * i + 1)) (D (R (42 + 3 * i))) = 0
      · simp (disch := omega) only [↓znm_, ↓reduceIte, rn0, rn1, rbI, nle_t, nle_f, nlt_t, nlt_f, neq_t, neq_f, x_add, x_mul, x_sub, x_div, ↓x_rem, x_remN, setI_eq, setI_ne, setI_nk, setI_2, bn0, bn1, reduceCtorEq, ↓O0b, ↓G0_0b, ↓G0_1b, ↓G0_2b, ↓P0_2b, ↓G0_3b, ↓G0_4b, ↓G0_5b, ↓G0_6b, ↓P0_6b, ↓G0_7b, ↓G0_8b, ↓P0_8b, ↓G0_9b, ↓G0_10b, ↓G0_11b, ↓G0_12b, ↓O1b, ↓G1_0b, ↓P1_0b, ↓G1_1b, ↓G1_2b, ↓G1_3b, ↓G1_4b, ↓G1_5b, ↓P1_5b, ↓G1_6b, ↓G1_7b, ↓G1_8b, ↓G1_9b, ↓P1_9b, ↓G1_10b, ↓G1_11b, ↓P1_11b, ↓G1_12b, ↓P1_12b, ↓G1_13b, ↓P1_13b, ↓G1_14b, ↓P1_14b, ↓G1_15b, ↓G1_16b, ↓P1_16b, ↓G1_17b, ↓G1_18b, ↓P1_18b, ↓G1_19b, ↓O85b, ↓G85_0b, ↓P85_0b, ↓G85_1b, ↓P85_1b, ↓G85_2b, ↓P85_2b, ↓G85_3b, ↓A2b, ↓S2b, ↓N2b, ↓A3b, ↓S3b, ↓N3b, ↓A4b, ↓S4b, ↓N4b, ↓A5b, ↓A5m, ↓A5p, ↓A5mp, ↓A5pm, ↓A5pmp, ↓A5mpp, ↓A5pp, ↓S5b, ↓S5m, ↓S5p, ↓S5mp, ↓S5pm, ↓S5pmp, ↓S5mpp, ↓S5pp, ↓N5b, ↓A6b, ↓S6b, ↓N6b, ↓A7b, ↓S7b, ↓N7b, ↓A8b, ↓S8b, ↓N8b, ↓A9b, ↓S9b, ↓N9b, ↓A84b, ↓S84b, ↓N84b, ↓A86b, ↓S86b, ↓N86b, ↓A88b, ↓S88b, ↓N88b, ↓A89b, ↓S89b, ↓N89b, ↓R10b, ↓R16b, ↓R27b, ↓R83b, ↓R87b, ↓R71b, ↓P0_2n, A2b, S2b, A3b, S3b, A4b, S4b, A5b, S5b, A6b, S6b, A7b, S7b, A8b, S8b, A9b, S9b, A84b, S84b, A86b, S86b, A88b, S88b, A89b, S89b, R10b, R16b, R27b, R83b, R87b, R71b, c4, d1, d2, ↓zc e1, ↓DA ha, r, x_dif1, x_sh1, x_or]
        rw [mkN, show dnB R D i = true from decide_eq_true hq, if_pos rfl] at nxt
        exact nxt
      · simp (disch := omega) only [↓znm_, ↓reduceIte, rn0, rn1, rbI, nle_t, nle_f, nlt_t, nlt_f, neq_t, neq_f, x_add, x_mul, x_sub, x_div, ↓x_rem, x_remN, setI_eq, setI_ne, setI_nk, setI_2, bn0, bn1, reduceCtorEq, ↓O0b, ↓G0_0b, ↓G0_1b, ↓G0_2b, ↓P0_2b, ↓G0_3b, ↓G0_4b, ↓G0_5b, ↓G0_6b, ↓P0_6b, ↓G0_7b, ↓G0_8b, ↓P0_8b, ↓G0_9b, ↓G0_10b, ↓G0_11b, ↓G0_12b, ↓O1b, ↓G1_0b, ↓P1_0b, ↓G1_1b, ↓G1_2b, ↓G1_3b, ↓G1_4b, ↓G1_5b, ↓P1_5b, ↓G1_6b, ↓G1_7b, ↓G1_8b, ↓G1_9b, ↓P1_9b, ↓G1_10b, ↓G1_11b, ↓P1_11b, ↓G1_12b, ↓P1_12b, ↓G1_13b, ↓P1_13b, ↓G1_14b, ↓P1_14b, ↓G1_15b, ↓G1_16b, ↓P1_16b, ↓G1_17b, ↓G1_18b, ↓P1_18b, ↓G1_19b, ↓O85b, ↓G85_0b, ↓P85_0b, ↓G85_1b, ↓P85_1b, ↓G85_2b, ↓P85_2b, ↓G85_3b, ↓A2b, ↓S2b, ↓N2b, ↓A3b, ↓S3b, ↓N3b, ↓A4b, ↓S4b, ↓N4b, ↓A5b, ↓A5m, ↓A5p, ↓A5mp, ↓A5pm, ↓A5pmp, ↓A5mpp, ↓A5pp, ↓S5b, ↓S5m, ↓S5p, ↓S5mp, ↓S5pm, ↓S5pmp, ↓S5mpp, ↓S5pp, ↓N5b, ↓A6b, ↓S6b, ↓N6b, ↓A7b, ↓S7b, ↓N7b, ↓A8b, ↓S8b, ↓N8b, ↓A9b, ↓S9b, ↓N9b, ↓A84b, ↓S84b, ↓N84b, ↓A86b, ↓S86b, ↓N86b, ↓A88b, ↓S88b, ↓N88b, ↓A89b, ↓S89b, ↓N89b, ↓R10b, ↓R16b, ↓R27b, ↓R83b, ↓R87b, ↓R71b, ↓P0_2n, A2b, S2b, A3b, S3b, A4b, S4b, A5b, S5b, A6b, S6b, A7b, S7b, A8b, S8b, A9b, S9b, A84b, S84b, A86b, S86b, A88b, S88b, A89b, S89b, R10b, R16b, R27b, R83b, R87b, R71b, c4, d1, d2, ↓zc e1, ↓DA ha, r, x_dif1]
        rw [mkN, show dnB R D i = false from decide_eq_false hq, if_neg (by decide), Nat.or_zero] at nxt
        exact nxt
theorem c_done (hN : 300 ≤ N) (ha : a = 4 ∨ a = 89) {M : PM} (hC : CR M 1 R) (hW : WF R hc) {D : Nat → Nat} (hr : ∀ p, p < 6 → M.1 a p = nI (D p)) : fX6_doneWith N (enc z M) (z + 1) (z + a) = some (nI (dnF R D), enc z M) := c_doneL N ha hC hW hr N 0 (by omega) (by have := hW.2.1; omega)
theorem c_knownL (ha : a = 4 ∨ a = 89) {M : PM} (hC : CR M 1 R) (hW : WF R hc) {D : Nat → Nat} (hD : ∀ p, p < 6 → D p < 256) (hr : ∀ p, p < 6 → M.1 a p = nI (D p)) : ∀ m i, i ≤ R 76 → R 76 - i < m → zfix (fun _ _ _ _ _ => none) (bX6_knownIn_4 N) m (enc z M) (z + 1) (z + a) (nI (knN D i)) (nI i) = some (nI (knN D (R 76)), enc z M) := by
  have h6 := hW.1
  have c1 := hC.1
  intro m
  induction m with
  | zero => intro i _ h; omega
  | succ m ih =>
    intro i hi hm
    rw [zfix_succ, bX6_knownIn_4]
    simp only [lit]
    by_cases h : i = R 76
    · subst h
      simp (disch := omega) only [↓znm_, ↓reduceIte, rn0, rn1, rbI, nle_t, nle_f, nlt_t, nlt_f, neq_t, neq_f, x_add, x_mul, x_sub, x_div, ↓x_rem, x_remN, setI_eq, setI_ne, setI_nk, setI_2, bn0, bn1, reduceCtorEq, ↓O0b, ↓G0_0b, ↓G0_1b, ↓G0_2b, ↓P0_2b, ↓G0_3b, ↓G0_4b, ↓G0_5b, ↓G0_6b, ↓P0_6b, ↓G0_7b, ↓G0_8b, ↓P0_8b, ↓G0_9b, ↓G0_10b, ↓G0_11b, ↓G0_12b, ↓O1b, ↓G1_0b, ↓P1_0b, ↓G1_1b, ↓G1_2b, ↓G1_3b, ↓G1_4b, ↓G1_5b, ↓P1_5b, ↓G1_6b, ↓G1_7b, ↓G1_8b, ↓G1_9b, ↓P1_9b, ↓G1_10b, ↓G1_11b, ↓P1_11b, ↓G1_12b, ↓P1_12b, ↓G1_13b, ↓P1_13b, ↓G1_14b, ↓P1_14b, ↓G1_15b, ↓G1_16b, ↓P1_16b, ↓G1_17b, ↓G1_18b, ↓P1_18b, ↓G1_19b, ↓O85b, ↓G85_0b, ↓P85_0b, ↓G85_1b, ↓P85_1b, ↓G85_2b, ↓P85_2b, ↓G85_3b, ↓A2b, ↓S2b, ↓N2b, ↓A3b, ↓S3b, ↓N3b, ↓A4b, ↓S4b, ↓N4b, ↓A5b, ↓A5m, ↓A5p, ↓A5mp, ↓A5pm, ↓A5pmp, ↓A5mpp, ↓A5pp, ↓S5b, ↓S5m, ↓S5p, ↓S5mp, ↓S5pm, ↓S5pmp, ↓S5mpp, ↓S5pp, ↓N5b, ↓A6b, ↓S6b, ↓N6b, ↓A7b, ↓S7b, ↓N7b, ↓A8b, ↓S8b, ↓N8b, ↓A9b, ↓S9b, ↓N9b, ↓A84b, ↓S84b, ↓N84b, ↓A86b, ↓S86b, ↓N86b, ↓A88b, ↓S88b, ↓N88b, ↓A89b, ↓S89b, ↓N89b, ↓R10b, ↓R16b, ↓R27b, ↓R83b, ↓R87b, ↓R71b, ↓P0_2n, A2b, S2b, A3b, S3b, A4b, S4b, A5b, S5b, A6b, S6b, A7b, S7b, A8b, S8b, A9b, S9b, A84b, S84b, A86b, S86b, A88b, S88b, A89b, S89b, R10b, R16b, R27b, R83b, R87b, R71b, c1]
    · have r := hr i (by omega)
      have e1 := c_bc N (h := enc z M) (hD i (by omega))
      have nxt := ih (i + 1) (by omega) (by omega)
      simp (disch := omega) only [↓znm_, ↓reduceIte, rn0, rn1, rbI, nle_t, nle_f, nlt_t, nlt_f, neq_t, neq_f, x_add, x_mul, x_sub, x_div, ↓x_rem, x_remN, setI_eq, setI_ne, setI_nk, setI_2, bn0, bn1, reduceCtorEq, ↓O0b, ↓G0_0b, ↓G0_1b, ↓G0_2b, ↓P0_2b, ↓G0_3b, ↓G0_4b, ↓G0_5b, ↓G0_6b, ↓P0_6b, ↓G0_7b, ↓G0_8b, ↓P0_8b, ↓G0_9b, ↓G0_10b, ↓G0_11b, ↓G0_12b, ↓O1b, ↓G1_0b, ↓P1_0b, ↓G1_1b, ↓G1_2b, ↓G1_3b, ↓G1_4b, ↓G1_5b, ↓P1_5b, ↓G1_6b, ↓G1_7b, ↓G1_8b, ↓G1_9b, ↓P1_9b, ↓G1_10b, ↓G1_11b, ↓P1_11b, ↓G1_12b, ↓P1_12b, ↓G1_13b, ↓P1_13b, ↓G1_14b, ↓P1_14b, ↓G1_15b, ↓G1_16b, ↓P1_16b, ↓G1_17b, ↓G1_18b, ↓P1_18b, ↓G1_19b, ↓O85b, ↓G85_0b, ↓P85_0b, ↓G85_1b, ↓P85_1b, ↓G85_2b, ↓P85_2b, ↓G85_3b, ↓A2b, ↓S2b, ↓N2b, ↓A3b, ↓S3b, ↓N3b, ↓A4b, ↓S4b, ↓N4b, ↓A5b, ↓A5m, ↓A5p, ↓A5mp, ↓A5pm, ↓A5pmp, ↓A5mpp, ↓A5pp, ↓S5b, ↓S5m, ↓S5p, ↓S5mp, ↓S5pm, ↓S5pmp, ↓S5mpp, ↓S5pp, ↓N5b, ↓A6b, ↓S6b, ↓N6b, ↓A7b, ↓S7b, ↓N7b, ↓A8b, ↓S8b, ↓N8b, ↓A9b, ↓S9b, ↓N9b, ↓A84b, ↓S84b, ↓N84b, ↓A86b, ↓S86b, ↓N86b, ↓A88b, ↓S88b, ↓N88b, ↓A89b, ↓S89b, ↓N89b, ↓R10b, ↓R16b, ↓R27b, ↓R83b, ↓R87b, ↓R71b, ↓P0_2n, A2b, S2b, A3b, S3b, A4b, S4b, A5b, S5b, A6b, S6b, A7b, S7b, A8b, S8b, A9b, S9b, A84b, S84b, A86b, S86b, A88b, S88b, A89b, S89b, R10b, R16b, R27b, R83b, R87b, R71b, c1, ↓DA ha, r, ↓zc e1]
      exact nxt
theorem c_known (hN : 300 ≤ N) (ha : a = 4 ∨ a = 89) {M : PM} (hC : CR M 1 R) (hW : WF R hc) {D : Nat → Nat} (hD : ∀ p, p < 6 → D p < 256) (hr : ∀ p, p < 6 → M.1 a p = nI (D p)) : fX6_knownIn N (enc z M) (z + 1) (z + a) = some (nI (knN D (R 76)), enc z M) := c_knownL N ha hC hW hD hr N 0 (by omega) (by have := hW.1; omega)
theorem m_takesQ {M : PM} {Q : Nat → Nat} (hM : MR M Q) {i q : Nat} (hi : i < 8) (hq : q < 3) : fX12_takes_ N (enc z M) (z + 126) (nI i) (nI q) = some (nI (Q (42 + 3 * i + q)), enc z M) := by
  have r := hM (42 + 3 * i + q) (by omega)
  rw [fX12_takes_]; simp only [lit]; simp (disch := omega) only [↓znm_, ↓reduceIte, rn0, rn1, rbI, nle_t, nle_f, nlt_t, nlt_f, neq_t, neq_f, x_add, x_mul, x_sub, x_div, ↓x_rem, x_remN, setI_eq, setI_ne, setI_nk, setI_2, bn0, bn1, reduceCtorEq, ↓O126b, ↓G126_0b, ↓G126_1b, ↓G126_2b, ↓G126_3b, ↓P126_3b, ↓G126_4b, ↓G126_5b, ↓P126_5b, ↓G126_6b, ↓G126_7b, ↓G126_8b, ↓P126_8b, ↓G126_9b, ↓G126_10b, ↓P126_10b, ↓G126_11b, ↓P126_11b, ↓G126_12b, ↓P126_12b, ↓G126_13b, ↓P126_13b, ↓G126_14b, ↓P126_14b, ↓G126_15b, ↓P126_15b, ↓G126_16b, ↓G126_17b, ↓G126_18b, ↓G126_19b, ↓G126_20b, ↓G126_21b, ↓G126_22b, ↓G126_23b, ↓P126_23b, ↓G126_24b, ↓G126_25b, ↓G126_26b, ↓G126_27b, ↓A127b, ↓A127m, ↓A127p, ↓A127mp, ↓A127pm, ↓A127pmp, ↓A127mpp, ↓A127pp, ↓S127b, ↓S127m, ↓S127p, ↓S127mp, ↓S127pm, ↓S127pmp, ↓S127mpp, ↓S127pp, ↓N127b, ↓A128b, ↓S128b, ↓N128b, ↓A129b, ↓S129b, ↓N129b, ↓A130b, ↓S130b, ↓N130b, ↓A131b, ↓A131m, ↓A131p, ↓A131mp, ↓A131pm, ↓A131pmp, ↓A131mpp, ↓A131pp, ↓S131b, ↓S131m, ↓S131p, ↓S131mp, ↓S131pm, ↓S131pmp, ↓S131mpp, ↓S131pp, ↓N131b, ↓A132b, ↓S132b, ↓N132b, ↓A133b, ↓S133b, ↓N133b, ↓A134b, ↓S134b, ↓N134b, ↓A135b, ↓S135b, ↓N135b, ↓A136b, ↓S136b, ↓N136b, ↓A137b, ↓A137m, ↓A137p, ↓A137mp, ↓A137pm, ↓A137pmp, ↓A137mpp, ↓A137pp, ↓S137b, ↓S137m, ↓S137p, ↓S137mp, ↓S137pm, ↓S137pmp, ↓S137mpp, ↓S137pp, ↓N137b, ↓A138b, ↓S138b, ↓N138b, ↓A139b, ↓A139m, ↓A139p, ↓A139mp, ↓A139pm, ↓A139pmp, ↓A139mpp, ↓A139pp, ↓S139b, ↓S139m, ↓S139p, ↓S139mp, ↓S139pm, ↓S139pmp, ↓S139mpp, ↓S139pp, ↓N139b, ↓A140b, ↓S140b, ↓N140b, ↓A141b, ↓S141b, ↓N141b, ↓A142b, ↓S142b, ↓N142b, ↓A143b, ↓A143m, ↓A143p, ↓A143mp, ↓A143pm, ↓A143pmp, ↓A143mpp, ↓A143pp, ↓S143b, ↓S143m, ↓S143p, ↓S143mp, ↓S143pm, ↓S143pmp, ↓S143mpp, ↓S143pp, ↓A144b, ↓S144b, A127b, S127b, A128b, S128b, A129b, S129b, A130b, S130b, A131b, S131b, A132b, S132b, A133b, S133b, A134b, S134b, A135b, S135b, A136b, S136b, A137b, S137b, A138b, S138b, A139b, S139b, A140b, S140b, A141b, S141b, A142b, S142b, A143b, S143b, A144b, S144b, ↓P126_3n, ↓P126_12n, ↓P126_12o, r]
theorem m_doneL {M : PM} (hW : WF R hc) {D : Nat → Nat} {d : Nat} (hM : MR M (wm R D d)) : ∀ m i, i ≤ R 77 → R 77 - i < m → zfix (fun _ _ _ _ => none) (bX12_done_4 N) m (enc z M) (z + 126) (nI (mkN (dnB R D) i)) (nI i) = some (nI (dnF R D), enc z M) := by
  have h6 := hW.1
  have w2 := hW.2.1
  have w10 := hW.2.2.2.2.2.2.2.2.2.1
  have r77 := hM 77 (by omega)
  rw [wm_o (by omega) (by omega)] at r77
  intro m
  induction m with
  | zero => intro i _ h; omega
  | succ m ih =>
    intro i hi hm
    rw [zfix_succ, bX12_done_4]
    simp only [lit]
    by_cases h : i = R 77
    · subst h
      simp (disch := omega) only [↓znm_, ↓reduceIte, rn0, rn1, rbI, nle_t, nle_f, nlt_t, nlt_f, neq_t, neq_f, x_add, x_mul, x_sub, x_div, ↓x_rem, x_remN, setI_eq, setI_ne, setI_nk, setI_2, bn0, bn1, reduceCtorEq, ↓O126b, ↓G126_0b, ↓G126_1b, ↓G126_2b, ↓G126_3b, ↓P126_3b, ↓G126_4b, ↓G126_5b, ↓P126_5b, ↓G126_6b, ↓G126_7b, ↓G126_8b, ↓P126_8b, ↓G126_9b, ↓G126_10b, ↓P126_10b, ↓G126_11b, ↓P126_11b, ↓G126_12b, ↓P126_12b, ↓G126_13b, ↓P126_13b, ↓G126_14b, ↓P126_14b, ↓G126_15b, ↓P126_15b, ↓G126_16b, ↓G126_17b, ↓G126_18b, ↓G126_19b, ↓G126_20b, ↓G126_21b, ↓G126_22b, ↓G126_23b, ↓P126_23b, ↓G126_24b, ↓G126_25b, ↓G126_26b, ↓G126_27b, ↓A127b, ↓A127m, ↓A127p, ↓A127mp, ↓A127pm, ↓A127pmp, ↓A127mpp, ↓A127pp, ↓S127b, ↓S127m, ↓S127p, ↓S127mp, ↓S127pm, ↓S127pmp, ↓S127mpp, ↓S127pp, ↓N127b, ↓A128b, ↓S128b, ↓N128b, ↓A129b, ↓S129b, ↓N129b, ↓A130b, ↓S130b, ↓N130b, ↓A131b, ↓A131m, ↓A131p, ↓A131mp, ↓A131pm, ↓A131pmp, ↓A131mpp, ↓A131pp, ↓S131b, ↓S131m, ↓S131p, ↓S131mp, ↓S131pm, ↓S131pmp, ↓S131mpp, ↓S131pp, ↓N131b, ↓A132b, ↓S132b, ↓N132b, ↓A133b, ↓S133b, ↓N133b, ↓A134b, ↓S134b, ↓N134b, ↓A135b, ↓S135b, ↓N135b, ↓A136b, ↓S136b, ↓N136b, ↓A137b, ↓A137m, ↓A137p, ↓A137mp, ↓A137pm, ↓A137pmp, ↓A137mpp, ↓A137pp, ↓S137b, ↓S137m, ↓S137p, ↓S137mp, ↓S137pm, ↓S137pmp, ↓S137mpp, ↓S137pp, ↓N137b, ↓A138b, ↓S138b, ↓N138b, ↓A139b, ↓A139m, ↓A139p, ↓A139mp, ↓A139pm, ↓A139pmp, ↓A139mpp, ↓A139pp, ↓S139b, ↓S139m, ↓S139p, ↓S139mp, ↓S139pm, ↓S139pmp, ↓S139mpp, ↓S139pp, ↓N139b, ↓A140b, ↓S140b, ↓N140b, ↓A141b, ↓S141b, ↓N141b, ↓A142b, ↓S142b, ↓N142b, ↓A143b, ↓A143m, ↓A143p, ↓A143mp, ↓A143pm, ↓A143pmp, ↓A143mpp, ↓A143pp, ↓S143b, ↓S143m, ↓S143p, ↓S143mp, ↓S143pm, ↓S143pmp, ↓S143mpp, ↓S143pp, ↓A144b, ↓S144b, A127b, S127b, A128b, S128b, A129b, S129b, A130b, S130b, A131b, S131b, A132b, S132b, A133b, S133b, A134b, S134b, A135b, S135b, A136b, S136b, A137b, S137b, A138b, S138b, A139b, S139b, A140b, S140b, A141b, S141b, A142b, S142b, A143b, S143b, A144b, S144b, ↓P126_3n, ↓P126_12n, ↓P126_12o, r77]
      rfl
    · have k := w10 i (by omega)
      have e0 := m_takesQ (z := z) N hM (i := i) (q := 0) (by omega) (by omega)
      have e1 := m_takesQ (z := z) N hM (i := i) (q := 1) (by omega) (by omega)
      rw [wm_o (by omega) (by omega)] at e0 e1
      have e0 : fX12_takes_ N (enc z M) (z + 126) (nI i) (nI 0) = some (nI (R (42 + 3 * i)), enc z M) := e0
      have e2 := m_mindOf (z := z) N hM (i := R (42 + 3 * i)) (by omega)
      rw [wm_m (by omega)] at e2
      have nxt := ih (i + 1) (by omega) (by omega)
      have hl : dif (R (42 + 3 * i + 1)) (D (R (42 + 3 * i))) < 256 := dif_lt k.2.1
      by_cases hq : dif (R (42 + 3 * i + 1)) (D (R (42 + 3 * i))) = 0
      · simp (disch := omega) only [↓znm_, ↓reduceIte, rn0, rn1, rbI, nle_t, nle_f, nlt_t, nlt_f, neq_t, neq_f, x_add, x_mul, x_sub, x_div, ↓x_rem, x_remN, setI_eq, setI_ne, setI_nk, setI_2, bn0, bn1, reduceCtorEq, ↓O126b, ↓G126_0b, ↓G126_1b, ↓G126_2b, ↓G126_3b, ↓P126_3b, ↓G126_4b, ↓G126_5b, ↓P126_5b, ↓G126_6b, ↓G126_7b, ↓G126_8b, ↓P126_8b, ↓G126_9b, ↓G126_10b, ↓P126_10b, ↓G126_11b, ↓P126_11b, ↓G126_12b, ↓P126_12b, ↓G126_13b, ↓P126_13b, ↓G126_14b, ↓P126_14b, ↓G126_15b, ↓P126_15b, ↓G126_16b, ↓G126_17b, ↓G126_18b, ↓G126_19b, ↓G126_20b, ↓G126_21b, ↓G126_22b, ↓G126_23b, ↓P126_23b, ↓G126_24b, ↓G126_25b, ↓G126_26b, ↓G126_27b, ↓A127b, ↓A127m, ↓A127p, ↓A127mp, ↓A127pm, ↓A127pmp, ↓A127mpp, ↓A127pp, ↓S127b, ↓S127m, ↓S127p, ↓S127mp, ↓S127pm, ↓S127pmp, ↓S127mpp, ↓S127pp, ↓N127b, ↓A128b, ↓S128b, ↓N128b, ↓A129b, ↓S129b, ↓N129b, ↓A130b, ↓S130b, ↓N130b, ↓A131b, ↓A131m, ↓A131p, ↓A131mp, ↓A131pm, ↓A131pmp, ↓A131mpp, ↓A131pp, ↓S131b, ↓S131m, ↓S131p, ↓S131mp, ↓S131pm, ↓S131pmp, ↓S131mpp, ↓S131pp, ↓N131b, ↓A132b, ↓S132b, ↓N132b, ↓A133b, ↓S133b, ↓N133b, ↓A134b, ↓S134b, ↓N134b, ↓A135b, ↓S135b, ↓N135b, ↓A136b, ↓S136b, ↓N136b, ↓A137b, ↓A137m, ↓A137p, ↓A137mp, ↓A137pm, ↓A137pmp, ↓A137mpp, ↓A137pp, ↓S137b, ↓S137m, ↓S137p, ↓S137mp, ↓S137pm, ↓S137pmp, ↓S137mpp, ↓S137pp, ↓N137b, ↓A138b, ↓S138b, ↓N138b, ↓A139b, ↓A139m, ↓A139p, ↓A139mp, ↓A139pm, ↓A139pmp, ↓A139mpp, ↓A139pp, ↓S139b, ↓S139m, ↓S139p, ↓S139mp, ↓S139pm, ↓S139pmp, ↓S139mpp, ↓S139pp, ↓N139b, ↓A140b, ↓S140b, ↓N140b, ↓A141b, ↓S141b, ↓N141b, ↓A142b, ↓S142b, ↓N142b, ↓A143b, ↓A143m, ↓A143p, ↓A143mp, ↓A143pm, ↓A143pmp, ↓A143mpp, ↓A143pp, ↓S143b, ↓S143m, ↓S143p, ↓S143mp, ↓S143pm, ↓S143pmp, ↓S143mpp, ↓S143pp, ↓A144b, ↓S144b, A127b, S127b, A128b, S128b, A129b, S129b, A130b, S130b, A131b, S131b, A132b, S132b, A133b, S133b, A134b, S134b, A135b, S135b, A136b, S136b, A137b, S137b, A138b, S138b, A139b, S139b, A140b, S140b, A141b, S141b, A142b, S142b, A143b, S143b, A144b, S144b, ↓P126_3n, ↓P126_12n, ↓P126_12o, r77, ↓zc e0, ↓zc e1, ↓zc e2, x_dif1, x_sh1, x_or]
        rw [mkN, show dnB R D i = true from decide_eq_true hq, if_pos rfl] at nxt
        exact nxt
      · simp (disch := omega) only [↓znm_, ↓reduceIte, rn0, rn1, rbI, nle_t, nle_f, nlt_t, nlt_f, neq_t, neq_f, x_add, x_mul, x_sub, x_div, ↓x_rem, x_remN, setI_eq, setI_ne, setI_nk, setI_2, bn0, bn1, reduceCtorEq, ↓O126b, ↓G126_0b, ↓G126_1b, ↓G126_2b, ↓G126_3b, ↓P126_3b, ↓G126_4b, ↓G126_5b, ↓P126_5b, ↓G126_6b, ↓G126_7b, ↓G126_8b, ↓P126_8b, ↓G126_9b, ↓G126_10b, ↓P126_10b, ↓G126_11b, ↓P126_11b, ↓G126_12b, ↓P126_12b, ↓G126_13b, ↓P126_13b, ↓G126_14b, ↓P126_14b, ↓G126_15b, ↓P126_15b, ↓G126_16b, ↓G126_17b, ↓G126_18b, ↓G126_19b, ↓G126_20b, ↓G126_21b, ↓G126_22b, ↓G126_23b, ↓P126_23b, ↓G126_24b, ↓G126_25b, ↓G126_26b, ↓G126_27b, ↓A127b, ↓A127m, ↓A127p, ↓A127mp, ↓A127pm, ↓A127pmp, ↓A127mpp, ↓A127pp, ↓S127b, ↓S127m, ↓S127p, ↓S127mp, ↓S127pm, ↓S127pmp, ↓S127mpp, ↓S127pp, ↓N127b, ↓A128b, ↓S128b, ↓N128b, ↓A129b, ↓S129b, ↓N129b, ↓A130b, ↓S130b, ↓N130b, ↓A131b, ↓A131m, ↓A131p, ↓A131mp, ↓A131pm, ↓A131pmp, ↓A131mpp, ↓A131pp, ↓S131b, ↓S131m, ↓S131p, ↓S131mp, ↓S131pm, ↓S131pmp, ↓S131mpp, ↓S131pp, ↓N131b, ↓A132b, ↓S132b, ↓N132b, ↓A133b, ↓S133b, ↓N133b, ↓A134b, ↓S134b, ↓N134b, ↓A135b, ↓S135b, ↓N135b, ↓A136b, ↓S136b, ↓N136b, ↓A137b, ↓A137m, ↓A137p, ↓A137mp, ↓A137pm, ↓A137pmp, ↓A137mpp, ↓A137pp, ↓S137b, ↓S137m, ↓S137p, ↓S137mp, ↓S137pm, ↓S137pmp, ↓S137mpp, ↓S137pp, ↓N137b, ↓A138b, ↓S138b, ↓N138b, ↓A139b, ↓A139m, ↓A139p, ↓A139mp, ↓A139pm, ↓A139pmp, ↓A139mpp, ↓A139pp, ↓S139b, ↓S139m, ↓S139p, ↓S139mp, ↓S139pm, ↓S139pmp, ↓S139mpp, ↓S139pp, ↓N139b, ↓A140b, ↓S140b, ↓N140b, ↓A141b, ↓S141b, ↓N141b, ↓A142b, ↓S142b, ↓N142b, ↓A143b, ↓A143m, ↓A143p, ↓A143mp, ↓A143pm, ↓A143pmp, ↓A143mpp, ↓A143pp, ↓S143b, ↓S143m, ↓S143p, ↓S143mp, ↓S143pm, ↓S143pmp, ↓S143mpp, ↓S143pp, ↓A144b, ↓S144b, A127b, S127b, A128b, S128b, A129b, S129b, A130b, S130b, A131b, S131b, A132b, S132b, A133b, S133b, A134b, S134b, A135b, S135b, A136b, S136b, A137b, S137b, A138b, S138b, A139b, S139b, A140b, S140b, A141b, S141b, A142b, S142b, A143b, S143b, A144b, S144b, ↓P126_3n, ↓P126_12n, ↓P126_12o, r77, ↓zc e0, ↓zc e1, ↓zc e2, x_dif1, x_or0]
        rw [mkN, show dnB R D i = false from decide_eq_false hq, if_neg (by decide), Nat.or_zero] at nxt
        exact nxt
theorem m_done (hN : 300 ≤ N) {M : PM} (hW : WF R hc) {D : Nat → Nat} {d : Nat} (hM : MR M (wm R D d)) : fX12_done N (enc z M) (z + 126) = some (nI (dnF R D), enc z M) := m_doneL N hW hM N 0 (by omega) (by have := hW.2.1; omega)
theorem m_knownL (hN : 300 ≤ N) {M : PM} (hW : WF R hc) {D : Nat → Nat} {d : Nat} (hD : ∀ p, p < 6 → D p < 256) (hM : MR M (wm R D d)) : ∀ m i, i ≤ R 76 → R 76 - i < m → zfix (fun _ _ _ _ => none) (bX12_known_4 N) m (enc z M) (z + 126) (nI (knN D i)) (nI i) = some (nI (knN D (R 76)), enc z M) := by
  have h6 := hW.1
  have r76 := hM 76 (by omega)
  rw [wm_o (by omega) (by omega)] at r76
  intro m
  induction m with
  | zero => intro i _ h; omega
  | succ m ih =>
    intro i hi hm
    rw [zfix_succ, bX12_known_4]
    simp only [lit]
    by_cases h : i = R 76
    · subst h
      simp (disch := omega) only [↓znm_, ↓reduceIte, rn0, rn1, rbI, nle_t, nle_f, nlt_t, nlt_f, neq_t, neq_f, x_add, x_mul, x_sub, x_div, ↓x_rem, x_remN, setI_eq, setI_ne, setI_nk, setI_2, bn0, bn1, reduceCtorEq, ↓O126b, ↓G126_0b, ↓G126_1b, ↓G126_2b, ↓G126_3b, ↓P126_3b, ↓G126_4b, ↓G126_5b, ↓P126_5b, ↓G126_6b, ↓G126_7b, ↓G126_8b, ↓P126_8b, ↓G126_9b, ↓G126_10b, ↓P126_10b, ↓G126_11b, ↓P126_11b, ↓G126_12b, ↓P126_12b, ↓G126_13b, ↓P126_13b, ↓G126_14b, ↓P126_14b, ↓G126_15b, ↓P126_15b, ↓G126_16b, ↓G126_17b, ↓G126_18b, ↓G126_19b, ↓G126_20b, ↓G126_21b, ↓G126_22b, ↓G126_23b, ↓P126_23b, ↓G126_24b, ↓G126_25b, ↓G126_26b, ↓G126_27b, ↓A127b, ↓A127m, ↓A127p, ↓A127mp, ↓A127pm, ↓A127pmp, ↓A127mpp, ↓A127pp, ↓S127b, ↓S127m, ↓S127p, ↓S127mp, ↓S127pm, ↓S127pmp, ↓S127mpp, ↓S127pp, ↓N127b, ↓A128b, ↓S128b, ↓N128b, ↓A129b, ↓S129b, ↓N129b, ↓A130b, ↓S130b, ↓N130b, ↓A131b, ↓A131m, ↓A131p, ↓A131mp, ↓A131pm, ↓A131pmp, ↓A131mpp, ↓A131pp, ↓S131b, ↓S131m, ↓S131p, ↓S131mp, ↓S131pm, ↓S131pmp, ↓S131mpp, ↓S131pp, ↓N131b, ↓A132b, ↓S132b, ↓N132b, ↓A133b, ↓S133b, ↓N133b, ↓A134b, ↓S134b, ↓N134b, ↓A135b, ↓S135b, ↓N135b, ↓A136b, ↓S136b, ↓N136b, ↓A137b, ↓A137m, ↓A137p, ↓A137mp, ↓A137pm, ↓A137pmp, ↓A137mpp, ↓A137pp, ↓S137b, ↓S137m, ↓S137p, ↓S137mp, ↓S137pm, ↓S137pmp, ↓S137mpp, ↓S137pp, ↓N137b, ↓A138b, ↓S138b, ↓N138b, ↓A139b, ↓A139m, ↓A139p, ↓A139mp, ↓A139pm, ↓A139pmp, ↓A139mpp, ↓A139pp, ↓S139b, ↓S139m, ↓S139p, ↓S139mp, ↓S139pm, ↓S139pmp, ↓S139mpp, ↓S139pp, ↓N139b, ↓A140b, ↓S140b, ↓N140b, ↓A141b, ↓S141b, ↓N141b, ↓A142b, ↓S142b, ↓N142b, ↓A143b, ↓A143m, ↓A143p, ↓A143mp, ↓A143pm, ↓A143pmp, ↓A143mpp, ↓A143pp, ↓S143b, ↓S143m, ↓S143p, ↓S143mp, ↓S143pm, ↓S143pmp, ↓S143mpp, ↓S143pp, ↓A144b, ↓S144b, A127b, S127b, A128b, S128b, A129b, S129b, A130b, S130b, A131b, S131b, A132b, S132b, A133b, S133b, A134b, S134b, A135b, S135b, A136b, S136b, A137b, S137b, A138b, S138b, A139b, S139b, A140b, S140b, A141b, S141b, A142b, S142b, A143b, S143b, A144b, S144b, ↓P126_3n, ↓P126_12n, ↓P126_12o, r76]
    · have e2 := m_mindOf (z := z) N hM (i := i) (by omega)
      rw [wm_m (by omega)] at e2
      have e1 := m_many N (by omega) (h := enc z M) (hD i (by omega))
      have nxt := ih (i + 1) (by omega) (by omega)
      simp (disch := omega) only [↓znm_, ↓reduceIte, rn0, rn1, rbI, nle_t, nle_f, nlt_t, nlt_f, neq_t, neq_f, x_add, x_mul, x_sub, x_div, ↓x_rem, x_remN, setI_eq, setI_ne, setI_nk, setI_2, bn0, bn1, reduceCtorEq, ↓O126b, ↓G126_0b, ↓G126_1b, ↓G126_2b, ↓G126_3b, ↓P126_3b, ↓G126_4b, ↓G126_5b, ↓P126_5b, ↓G126_6b, ↓G126_7b, ↓G126_8b, ↓P126_8b, ↓G126_9b, ↓G126_10b, ↓P126_10b, ↓G126_11b, ↓P126_11b, ↓G126_12b, ↓P126_12b, ↓G126_13b, ↓P126_13b, ↓G126_14b, ↓P126_14b, ↓G126_15b, ↓P126_15b, ↓G126_16b, ↓G126_17b, ↓G126_18b, ↓G126_19b, ↓G126_20b, ↓G126_21b, ↓G126_22b, ↓G126_23b, ↓P126_23b, ↓G126_24b, ↓G126_25b, ↓G126_26b, ↓G126_27b, ↓A127b, ↓A127m, ↓A127p, ↓A127mp, ↓A127pm, ↓A127pmp, ↓A127mpp, ↓A127pp, ↓S127b, ↓S127m, ↓S127p, ↓S127mp, ↓S127pm, ↓S127pmp, ↓S127mpp, ↓S127pp, ↓N127b, ↓A128b, ↓S128b, ↓N128b, ↓A129b, ↓S129b, ↓N129b, ↓A130b, ↓S130b, ↓N130b, ↓A131b, ↓A131m, ↓A131p, ↓A131mp, ↓A131pm, ↓A131pmp, ↓A131mpp, ↓A131pp, ↓S131b, ↓S131m, ↓S131p, ↓S131mp, ↓S131pm, ↓S131pmp, ↓S131mpp, ↓S131pp, ↓N131b, ↓A132b, ↓S132b, ↓N132b, ↓A133b, ↓S133b, ↓N133b, ↓A134b, ↓S134b, ↓N134b, ↓A135b, ↓S135b, ↓N135b, ↓A136b, ↓S136b, ↓N136b, ↓A137b, ↓A137m, ↓A137p, ↓A137mp, ↓A137pm, ↓A137pmp, ↓A137mpp, ↓A137pp, ↓S137b, ↓S137m, ↓S137p, ↓S137mp, ↓S137pm, ↓S137pmp, ↓S137mpp, ↓S137pp, ↓N137b, ↓A138b, ↓S138b, ↓N138b, ↓A139b, ↓A139m, ↓A139p, ↓A139mp, ↓A139pm, ↓A139pmp, ↓A139mpp, ↓A139pp, ↓S139b, ↓S139m, ↓S139p, ↓S139mp, ↓S139pm, ↓S139pmp, ↓S139mpp, ↓S139pp, ↓N139b, ↓A140b, ↓S140b, ↓N140b, ↓A141b, ↓S141b, ↓N141b, ↓A142b, ↓S142b, ↓N142b, ↓A143b, ↓A143m, ↓A143p, ↓A143mp, ↓A143pm, ↓A143pmp, ↓A143mpp, ↓A143pp, ↓S143b, ↓S143m, ↓S143p, ↓S143mp, ↓S143pm, ↓S143pmp, ↓S143mpp, ↓S143pp, ↓A144b, ↓S144b, A127b, S127b, A128b, S128b, A129b, S129b, A130b, S130b, A131b, S131b, A132b, S132b, A133b, S133b, A134b, S134b, A135b, S135b, A136b, S136b, A137b, S137b, A138b, S138b, A139b, S139b, A140b, S140b, A141b, S141b, A142b, S142b, A143b, S143b, A144b, S144b, ↓P126_3n, ↓P126_12n, ↓P126_12o, r76, ↓zc e2, ↓zc e1]
      exact nxt
theorem m_known (hN : 300 ≤ N) {M : PM} (hW : WF R hc) {D : Nat → Nat} {d : Nat} (hD : ∀ p, p < 6 → D p < 256) (hM : MR M (wm R D d)) : fX12_known N (enc z M) (z + 126) = some (nI (knN D (R 76)), enc z M) := m_knownL N hN hW hD hM N 0 (by omega) (by have := hW.1; omega)
theorem VA (ha : a = 127 ∨ a = 128 ∨ a = 129) {M : PM} {i : Nat} (hi : i < 140) {β : Type} {f : _ → Option β} : (zald 0 (enc z M) (z + a) (nI i)).bind f = f (M.1 a i) := by
  rcases ha with rfl | rfl | rfl
  · exact A127b hi
  · exact A128b hi
  · exact A129b hi
theorem VS (ha : a = 127 ∨ a = 128 ∨ a = 129) {M : PM} {i : Nat} {v : Int32} (hi : i < 140) {β : Type} {f : _ → Option β} : (zast 0 (enc z M) (z + a) (nI i) v).bind f = f (enc z (setI M a i v)) := by
  rcases ha with rfl | rfl | rfl
  · exact S127b hi
  · exact S128b hi
  · exact S129b hi
theorem m_moveL {b : Nat} (ha : a = 127 ∨ a = 128 ∨ a = 129) (hb : b = 127 ∨ b = 128 ∨ b = 129) (hab : a ≠ b) {M0 : PM} : ∀ m i (M : PM), i ≤ 140 → 140 - i < m → M.2 = M0.2 → (∀ c j, c ≠ b → M.1 c j = M0.1 c j) → (∀ j, j < i → M.1 b j = M0.1 a j) → ∃ M', zfix (fun _ _ _ _ => none) (bX12_move_2 N) m (enc z M) (z + a) (z + b) (nI i) = some ((), enc z M') ∧ M'.2 = M0.2 ∧ (∀ c j, c ≠ b → M'.1 c j = M0.1 c j) ∧ ∀ j, j < 140 → M'.1 b j = M0.1 a j := by
  intro m
  induction m with
  | zero => intro i M _ h; omega
  | succ m ih =>
    intro i M hi hm h2 hF hr
    rw [zfix_succ, bX12_move_2]
    simp only [lit]
    by_cases h : i = 140
    · subst h
      refine ⟨M, ?_, h2, hF, hr⟩
      simp (disch := omega) only [↓znm_, ↓reduceIte, rn0, rn1, rbI, nle_t, nle_f, nlt_t, nlt_f, neq_t, neq_f, x_add, x_mul, x_sub, x_div, ↓x_rem, x_remN, setI_eq, setI_ne, setI_nk, setI_2, bn0, bn1, reduceCtorEq]
    · obtain ⟨M', g1, g2, g3, g4⟩ := ih (i + 1) (setI M b i (M.1 a i)) (by omega) (by omega) h2 (fun c j q => by rw [setI_nk q]; exact hF c j q) (fun j hj => by
        by_cases q : j = i
        · subst q; rw [setI_eq]; exact hF a j hab
        · rw [setI_ne q]; exact hr j (by omega))
      refine ⟨M', ?_, g2, g3, g4⟩
      simp (disch := omega) only [↓znm_, ↓reduceIte, rn0, rn1, rbI, nle_t, nle_f, nlt_t, nlt_f, neq_t, neq_f, x_add, x_mul, x_sub, x_div, ↓x_rem, x_remN, setI_eq, setI_ne, setI_nk, setI_2, bn0, bn1, reduceCtorEq, ↓VA ha, ↓VS hb]
      exact g1
theorem m_move (hN : 300 ≤ N) {b : Nat} (ha : a = 127 ∨ a = 128 ∨ a = 129) (hb : b = 127 ∨ b = 128 ∨ b = 129) (hab : a ≠ b) {M : PM} : ∃ M', fX12_move N (enc z M) (z + a) (z + b) = some ((), enc z M') ∧ M'.2 = M.2 ∧ (∀ c j, c ≠ b → M'.1 c j = M.1 c j) ∧ ∀ j, j < 140 → M'.1 b j = M.1 a j := m_moveL N ha hb hab N 0 M (by omega) (by omega) rfl (fun _ _ _ => rfl) (fun j hj => by omega)
theorem QG_start (hN : 300 ≤ N) {M : PM} (hM : MR M R) : ∃ M', fX12_move N (enc z M) (z + 127) (z + 128) = some ((), enc z M') ∧ QG M M' R (fun p => R (7 * p + 2)) (R 79) := by
  obtain ⟨M', g1, g2, g3, g4⟩ := m_move (z := z) N hN (a := 127) (b := 128) (Or.inl rfl) (Or.inr (Or.inl rfl)) (by omega) (M := M)
  refine ⟨M', g1, ⟨g2, fun c j q => g3 c j (by omega)⟩, fun j hj => by rw [g4 j hj]; exact hM j hj, ?_⟩
  rw [wm_self]
  intro j hj
  rw [g3 127 j (by omega)]
  exact hM j hj
theorem QG_end (hN : 300 ≤ N) {M0 M : PM} {D : Nat → Nat} {d : Nat} (h : QG M0 M R D d) : ∃ M', fX12_move N (enc z M) (z + 128) (z + 127) = some ((), enc z M') ∧ FG M0 M' ∧ MR M' R := by
  obtain ⟨M', g1, g2, g3, g4⟩ := m_move (z := z) N hN (a := 128) (b := 127) (Or.inr (Or.inl rfl)) (Or.inl rfl) (by omega) (M := M)
  exact ⟨M', g1, FG_trans h.1 ⟨g2, fun c j q => g3 c j (by omega)⟩, fun j hj => by rw [g4 j hj]; exact h.2.1 j hj⟩
theorem QG_night (hN : 300 ≤ N) {M0 M : PM} (hT : HT M0 T hc) (hW : W0 R hc) {D : Nat → Nat} {d : Nat} (hD : ∀ p, p < 6 → D p < 256) (hd : d < 50000) (h : QG M0 M R D d) : ∃ M', fX12_night N (enc z M) (z + 126) = some ((), enc z M') ∧ QG M0 M' R (nD T R D d) (d + 1) := by
  obtain ⟨M', g1, g2, g3⟩ := m_night (z := z) N hN (HT_G h.1 hT) hW hD hd h.2.2
  exact ⟨M', g1, FG_trans h.1 (FG_7 g2), fun j hj => by rw [g2.2 128 j (by omega)]; exact h.2.1 j hj, g3⟩
theorem QD_sleep (hN : 300 ≤ N) {M0 M : PM} (hQ : QC M0 R T hc) {D : Nat → Nat} (hD : ∀ p, p < 6 → D p < 256) {d n : Nat} (hd : d < 40000) (hn : n ≤ 60) (h : QD M0 M D) : ∃ M', fX11_sleep N (enc z M) z (z + 89) (nI d) (nI n) = some ((), enc z M') ∧ QD M0 M' (nDs T R n D d) := by
  have hq := QC_S hQ h.1
  obtain ⟨M', g1, g2, g3⟩ := c_sleep (z := z) N hN (Or.inr rfl) hq.1 hq.2.1 hD hd hn h.2
  exact ⟨M', g1, FS_trans h.1 g2, g3⟩
end
theorem minds_lt {R : Nat → Nat} {hc : Nat} (hW : WF R hc) : ∀ p, p < 6 → (fun p => R (7 * p + 2)) p < 256 := fun p hp => (hW.2.2.2.2.2.2.2.2.1 p hp).2.2.1
