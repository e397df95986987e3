section
variable {z : Nat} (N : Nat) {R : Nat → Nat} {T : TT} {hc : Nat}
theorem c_has {M : PM} (h0 : M.1 1 0 = nI (R 76)) (h6 : R 76 ≤ 6) {p : Nat} (hp : p < 2147483648) : fX6_hasMaster N (enc z M) (z + 1) (nI p) = some (bI (decide (p < R 76)), enc z M) := by
  rw [fX6_hasMaster]
  simp only [lit]
  by_cases q : p < R 76
  · rw [decide_eq_true q]
    simp (disch := omega) only [↓znm_, ↓reduceIte, rn0, rn1, rbI, nle_t, nle_f, nlt_t, nlt_f, neq_t, neq_f, x_add, x_mul, x_sub, x_div, ↓x_rem, x_remN, setI_eq, setI_ne, setI_nk, setI_2, bn0, bn1, reduceCtorEq, ↓O0b, ↓G0_0b, ↓G0_1b, ↓G0_2b, ↓P0_2b, ↓G0_3b, ↓G0_4b, ↓G0_5b, ↓G0_6b, ↓P0_6b, ↓G0_7b, ↓G0_8b, ↓P0_8b, ↓G0_9b, ↓G0_10b, ↓G0_11b, ↓G0_12b, ↓O1b, ↓G1_0b, ↓P1_0b, ↓G1_1b, ↓G1_2b, ↓G1_3b, ↓G1_4b, ↓G1_5b, ↓P1_5b, ↓G1_6b, ↓G1_7b, ↓G1_8b, ↓G1_9b, ↓P1_9b, ↓G1_10b, ↓G1_11b, ↓P1_11b, ↓G1_12b, ↓P1_12b, ↓G1_13b, ↓P1_13b, ↓G1_14b, ↓P1_14b, ↓G1_15b, ↓G1_16b, ↓P1_16b, ↓G1_17b, ↓G1_18b, ↓P1_18b, ↓G1_19b, ↓O85b, ↓G85_0b, ↓P85_0b, ↓G85_1b, ↓P85_1b, ↓G85_2b, ↓P85_2b, ↓G85_3b, ↓A2b, ↓S2b, ↓N2b, ↓A3b, ↓S3b, ↓N3b, ↓A4b, ↓S4b, ↓N4b, ↓A5b, ↓A5m, ↓A5p, ↓A5mp, ↓A5pm, ↓A5pmp, ↓A5mpp, ↓A5pp, ↓S5b, ↓S5m, ↓S5p, ↓S5mp, ↓S5pm, ↓S5pmp, ↓S5mpp, ↓S5pp, ↓N5b, ↓A6b, ↓S6b, ↓N6b, ↓A7b, ↓S7b, ↓N7b, ↓A8b, ↓S8b, ↓N8b, ↓A9b, ↓S9b, ↓N9b, ↓A84b, ↓S84b, ↓N84b, ↓A86b, ↓S86b, ↓N86b, ↓A88b, ↓S88b, ↓N88b, ↓A89b, ↓S89b, ↓N89b, ↓R10b, ↓R16b, ↓R27b, ↓R83b, ↓R87b, ↓R71b, ↓P0_2n, A2b, S2b, A3b, S3b, A4b, S4b, A5b, S5b, A6b, S6b, A7b, S7b, A8b, S8b, A9b, S9b, A84b, S84b, A86b, S86b, A88b, S88b, A89b, S89b, R10b, R16b, R27b, R83b, R87b, R71b, h0]
    rfl
  · rw [decide_eq_false q]
    simp (disch := omega) only [↓znm_, ↓reduceIte, rn0, rn1, rbI, nle_t, nle_f, nlt_t, nlt_f, neq_t, neq_f, x_add, x_mul, x_sub, x_div, ↓x_rem, x_remN, setI_eq, setI_ne, setI_nk, setI_2, bn0, bn1, reduceCtorEq, ↓O0b, ↓G0_0b, ↓G0_1b, ↓G0_2b, ↓P0_2b, ↓G0_3b, ↓G0_4b, ↓G0_5b, ↓G0_6b, ↓P0_6b, ↓G0_7b, ↓G0_8b, ↓P0_8b, ↓G0_9b, ↓G0_10b, ↓G0_11b, ↓G0_12b, ↓O1b, ↓G1_0b, ↓P1_0b, ↓G1_1b, ↓G1_2b, ↓G1_3b, ↓G1_4b, ↓G1_5b, ↓P1_5b, ↓G1_6b, ↓G1_7b, ↓G1_8b, ↓G1_9b, ↓P1_9b, ↓G1_10b, ↓G1_11b, ↓P1_11b, ↓G1_12b, ↓P1_12b, ↓G1_13b, ↓P1_13b, ↓G1_14b, ↓P1_14b, ↓G1_15b, ↓G1_16b, ↓P1_16b, ↓G1_17b, ↓G1_18b, ↓P1_18b, ↓G1_19b, ↓O85b, ↓G85_0b, ↓P85_0b, ↓G85_1b, ↓P85_1b, ↓G85_2b, ↓P85_2b, ↓G85_3b, ↓A2b, ↓S2b, ↓N2b, ↓A3b, ↓S3b, ↓N3b, ↓A4b, ↓S4b, ↓N4b, ↓A5b, ↓A5m, ↓A5p, ↓A5mp, ↓A5pm, ↓A5pmp, ↓A5mpp, ↓A5pp, ↓S5b, ↓S5m, ↓S5p, ↓S5mp, ↓S5pm, ↓S5pmp, ↓S5mpp, ↓S5pp, ↓N5b, ↓A6b, ↓S6b, ↓N6b, ↓A7b, ↓S7b, ↓N7b, ↓A8b, ↓S8b, ↓N8b, ↓A9b, ↓S9b, ↓N9b, ↓A84b, ↓S84b, ↓N84b, ↓A86b, ↓S86b, ↓N86b, ↓A88b, ↓S88b, ↓N88b, ↓A89b, ↓S89b, ↓N89b, ↓R10b, ↓R16b, ↓R27b, ↓R83b, ↓R87b, ↓R71b, ↓P0_2n, A2b, S2b, A3b, S3b, A4b, S4b, A5b, S5b, A6b, S6b, A7b, S7b, A8b, S8b, A9b, S9b, A84b, S84b, A86b, S86b, A88b, S88b, A89b, S89b, R10b, R16b, R27b, R83b, R87b, R71b, h0]
    rfl
theorem kp_succ {S : SF} {kd v : Nat} {mr : Nat → Nat} {p facts d i : Nat} (b : Bool) (hb : (facts.testBit i && decide (nI 0 < grF S kd v mr p i d)) = b) : mkN (fun f => facts.testBit f && decide (nI 0 < grF S kd v mr p f d)) (i + 1) = mkN (fun f => facts.testBit f && decide (nI 0 < grF S kd v mr p f d)) i ||| (if b = true then 2 ^ i else 0) := by
  rw [mkN, hb]
theorem c_keptL {M : PM} (h : KR M R T hc) {p v d facts : Nat} (hp : p < 6) (hv : v < 10) (hd : d < 100000) (hf : facts < 256) (h88 : ∀ f, f < 8 → M.1 88 f = sfn T (R 80) (nmf (p, R (7 * p), v, d) f)) : ∀ m i, i ≤ 8 → 8 - i < m → zfix (fun _ _ _ _ _ _ _ _ => none) (bX11_keptInNight_47 N) m (enc z M) z (nI p) (nI v) (nI d) (nI facts) (nI (mkN (fun f => facts.testBit f && decide (nI 0 < grF (sfn T (R 80)) (R (7 * p)) v (fun q => R (7 * p + 3 + q)) p f d)) i)) (nI i) = some (nI (KK T R v p facts d), enc z M) := by
  intro m
  induction m with
  | zero => intro i _ h; omega
  | succ m ih =>
    intro i hi hm
    rw [zfix_succ, bX11_keptInNight_47]
    simp only [lit]
    by_cases h8 : i = 8
    · subst h8
      simp (disch := omega) only [↓znm_, ↓reduceIte, rn0, rn1, rbI, nle_t, nle_f, nlt_t, nlt_f, neq_t, neq_f, x_add, x_mul, x_sub, x_div, ↓x_rem, x_remN, setI_eq, setI_ne, setI_nk, setI_2, bn0, bn1, reduceCtorEq]
      rfl
    · have e1 := c_grip (z := z) N h hp hv hd (f := i) (by omega)
      rw [h88 i (by omega)] at e1
      have nxt := ih (i + 1) (by omega) (by omega)
      cases hb : facts.testBit i with
      | false =>
        simp (disch := omega) only [↓znm_, ↓reduceIte, rn0, rn1, rbI, nle_t, nle_f, nlt_t, nlt_f, neq_t, neq_f, x_add, x_mul, x_sub, x_div, ↓x_rem, x_remN, setI_eq, setI_ne, setI_nk, setI_2, bn0, bn1, reduceCtorEq, x_sh1, x_andb1, hb]
        rw [kp_succ false (by rw [hb]; rfl), if_neg (by decide), Nat.or_zero] at nxt
        exact nxt
      | true =>
        by_cases hg : nI 0 < grF (sfn T (R 80)) (R (7 * p)) v (fun q => R (7 * p + 3 + q)) p i d
        · have hg2 : ¬ grV (sfn T (R 80) (nmf (p, R (7 * p), v, d) i)) (R (7 * p)) v i d (R (7 * p + 3 + d % 4)) ≤ nI 0 := Int32.not_le.mpr hg
          simp (disch := omega) only [↓znm_, ↓reduceIte, rn0, rn1, rbI, nle_t, nle_f, nlt_t, nlt_f, neq_t, neq_f, x_add, x_mul, x_sub, x_div, ↓x_rem, x_remN, setI_eq, setI_ne, setI_nk, setI_2, bn0, bn1, reduceCtorEq, x_sh1, x_andb1, hb, ↓zc e1, hg2, ↓O0b, ↓G0_0b, ↓G0_1b, ↓G0_2b, ↓P0_2b, ↓G0_3b, ↓G0_4b, ↓G0_5b, ↓G0_6b, ↓P0_6b, ↓G0_7b, ↓G0_8b, ↓P0_8b, ↓G0_9b, ↓G0_10b, ↓G0_11b, ↓G0_12b, ↓O1b, ↓G1_0b, ↓P1_0b, ↓G1_1b, ↓G1_2b, ↓G1_3b, ↓G1_4b, ↓G1_5b, ↓P1_5b, ↓G1_6b, ↓G1_7b, ↓G1_8b, ↓G1_9b, ↓P1_9b, ↓G1_10b, ↓G1_11b, ↓P1_11b, ↓G1_12b, ↓P1_12b, ↓G1_13b, ↓P1_13b, ↓G1_14b, ↓P1_14b, ↓G1_15b, ↓G1_16b, ↓P1_16b, ↓G1_17b, ↓G1_18b, ↓P1_18b, ↓G1_19b, ↓O85b, ↓G85_0b, ↓P85_0b, ↓G85_1b, ↓P85_1b, ↓G85_2b, ↓P85_2b, ↓G85_3b, ↓A2b, ↓S2b, ↓N2b, ↓A3b, ↓S3b, ↓N3b, ↓A4b, ↓S4b, ↓N4b, ↓A5b, ↓A5m, ↓A5p, ↓A5mp, ↓A5pm, ↓A5pmp, ↓A5mpp, ↓A5pp, ↓S5b, ↓S5m, ↓S5p, ↓S5mp, ↓S5pm, ↓S5pmp, ↓S5mpp, ↓S5pp, ↓N5b, ↓A6b, ↓S6b, ↓N6b, ↓A7b, ↓S7b, ↓N7b, ↓A8b, ↓S8b, ↓N8b, ↓A9b, ↓S9b, ↓N9b, ↓A84b, ↓S84b, ↓N84b, ↓A86b, ↓S86b, ↓N86b, ↓A88b, ↓S88b, ↓N88b, ↓A89b, ↓S89b, ↓N89b, ↓R10b, ↓R16b, ↓R27b, ↓R83b, ↓R87b, ↓R71b, ↓P0_2n, A2b, S2b, A3b, S3b, A4b, S4b, A5b, S5b, A6b, S6b, A7b, S7b, A8b, S8b, A9b, S9b, A84b, S84b, A86b, S86b, A88b, S88b, A89b, S89b, R10b, R16b, R27b, R83b, R87b, R71b, x_or]
          rw [kp_succ true (by rw [hb, decide_eq_true hg]; rfl), if_pos rfl] at nxt
          exact nxt
        · have hg2 : grV (sfn T (R 80) (nmf (p, R (7 * p), v, d) i)) (R (7 * p)) v i d (R (7 * p + 3 + d % 4)) ≤ nI 0 := Int32.not_lt.mp hg
          simp (disch := omega) only [↓znm_, ↓reduceIte, rn0, rn1, rbI, nle_t, nle_f, nlt_t, nlt_f, neq_t, neq_f, x_add, x_mul, x_sub, x_div, ↓x_rem, x_remN, setI_eq, setI_ne, setI_nk, setI_2, bn0, bn1, reduceCtorEq, x_sh1, x_andb1, hb, ↓zc e1, hg2, ↓O0b, ↓G0_0b, ↓G0_1b, ↓G0_2b, ↓P0_2b, ↓G0_3b, ↓G0_4b, ↓G0_5b, ↓G0_6b, ↓P0_6b, ↓G0_7b, ↓G0_8b, ↓P0_8b, ↓G0_9b, ↓G0_10b, ↓G0_11b, ↓G0_12b, ↓O1b, ↓G1_0b, ↓P1_0b, ↓G1_1b, ↓G1_2b, ↓G1_3b, ↓G1_4b, ↓G1_5b, ↓P1_5b, ↓G1_6b, ↓G1_7b, ↓G1_8b, ↓G1_9b, ↓P1_9b, ↓G1_10b, ↓G1_11b, ↓P1_11b, ↓G1_12b, ↓P1_12b, ↓G1_13b, ↓P1_13b, ↓G1_14b, ↓P1_14b, ↓G1_15b, ↓G1_16b, ↓P1_16b, ↓G1_17b, ↓G1_18b, ↓P1_18b, ↓G1_19b, ↓O85b, ↓G85_0b, ↓P85_0b, ↓G85_1b, ↓P85_1b, ↓G85_2b, ↓P85_2b, ↓G85_3b, ↓A2b, ↓S2b, ↓N2b, ↓A3b, ↓S3b, ↓N3b, ↓A4b, ↓S4b, ↓N4b, ↓A5b, ↓A5m, ↓A5p, ↓A5mp, ↓A5pm, ↓A5pmp, ↓A5mpp, ↓A5pp, ↓S5b, ↓S5m, ↓S5p, ↓S5mp, ↓S5pm, ↓S5pmp, ↓S5mpp, ↓S5pp, ↓N5b, ↓A6b, ↓S6b, ↓N6b, ↓A7b, ↓S7b, ↓N7b, ↓A8b, ↓S8b, ↓N8b, ↓A9b, ↓S9b, ↓N9b, ↓A84b, ↓S84b, ↓N84b, ↓A86b, ↓S86b, ↓N86b, ↓A88b, ↓S88b, ↓N88b, ↓A89b, ↓S89b, ↓N89b, ↓R10b, ↓R16b, ↓R27b, ↓R83b, ↓R87b, ↓R71b, ↓P0_2n, A2b, S2b, A3b, S3b, A4b, S4b, A5b, S5b, A6b, S6b, A7b, S7b, A8b, S8b, A9b, S9b, A84b, S84b, A86b, S86b, A88b, S88b, A89b, S89b, R10b, R16b, R27b, R83b, R87b, R71b]
          rw [kp_succ false (by rw [hb, decide_eq_false hg]; rfl), if_neg (by decide), Nat.or_zero] at nxt
          exact nxt
theorem HOb' {M : PM} {k : Nat} (hk : isH k) {β : Type} {f : _ → Option β} : (zis (enc z M) (z + k) 5).bind f = f () := HOb hk
theorem c_kept (hN : 300 ≤ N) {M : PM} (h : KR M R T hc) {p v d facts : Nat} (hp : p < R 76) (hv : v < 10) (hd : d < 100000) (hf : facts < 256) : ∃ M', fX11_keptInNight N (enc z M) z (nI p) (nI v) (nI d) (nI facts) = some (nI (KK T R v p facts d), enc z M') ∧ FQ M M' := by
  have h76 := h.2.1
  have hr6 : R 80 ≤ 6 := by have := h.2.2.2.1; have := h.2.2.2.2.2.1; omega
  rw [fX11_keptInNight]
  simp only [lit]
  by_cases q : facts = 0
  · subst q
    refine ⟨M, ?_, FQ_refl⟩
    simp (disch := omega) only [↓znm_, ↓reduceIte, rn0, rn1, rbI, nle_t, nle_f, nlt_t, nlt_f, neq_t, neq_f, x_add, x_mul, x_sub, x_div, ↓x_rem, x_remN, setI_eq, setI_ne, setI_nk, setI_2, bn0, bn1, reduceCtorEq]
    rw [KK_0]
  · have e1 := c_has (z := z) N (R := R) h.1 h76 (p := p) (by omega)
    rw [decide_eq_true hp] at e1
    have e2 := c_hold (z := z) N h
    have k := (h.2.2.2.2.2.2.1 p (by omega)).1
    obtain ⟨M', g1, g2, g3⟩ := c_weigh (z := z) N (by omega) (hkc_H hr6) (KR_H h) (p, R (7 * p), v, d) (by show d < _; omega)
    have h' := KR_Q (FQ_W (hkc_H hr6) g2) h
    have e3 := c_keptL (z := z) N h' (by omega : p < 6) hv hd hf g3 N 0 (by omega) (by omega)
    refine ⟨M', ?_, FQ_W (hkc_H hr6) g2⟩
    simp (disch := omega) only [↓znm_, ↓reduceIte, rn0, rn1, rbI, nle_t, nle_f, nlt_t, nlt_f, neq_t, neq_f, x_add, x_mul, x_sub, x_div, ↓x_rem, x_remN, setI_eq, setI_ne, setI_nk, setI_2, bn0, bn1, reduceCtorEq, ↓O0b, ↓G0_0b, ↓G0_1b, ↓G0_2b, ↓P0_2b, ↓G0_3b, ↓G0_4b, ↓G0_5b, ↓G0_6b, ↓P0_6b, ↓G0_7b, ↓G0_8b, ↓P0_8b, ↓G0_9b, ↓G0_10b, ↓G0_11b, ↓G0_12b, ↓O1b, ↓G1_0b, ↓P1_0b, ↓G1_1b, ↓G1_2b, ↓G1_3b, ↓G1_4b, ↓G1_5b, ↓P1_5b, ↓G1_6b, ↓G1_7b, ↓G1_8b, ↓G1_9b, ↓P1_9b, ↓G1_10b, ↓G1_11b, ↓P1_11b, ↓G1_12b, ↓P1_12b, ↓G1_13b, ↓P1_13b, ↓G1_14b, ↓P1_14b, ↓G1_15b, ↓G1_16b, ↓P1_16b, ↓G1_17b, ↓G1_18b, ↓P1_18b, ↓G1_19b, ↓O85b, ↓G85_0b, ↓P85_0b, ↓G85_1b, ↓P85_1b, ↓G85_2b, ↓P85_2b, ↓G85_3b, ↓A2b, ↓S2b, ↓N2b, ↓A3b, ↓S3b, ↓N3b, ↓A4b, ↓S4b, ↓N4b, ↓A5b, ↓A5m, ↓A5p, ↓A5mp, ↓A5pm, ↓A5pmp, ↓A5mpp, ↓A5pp, ↓S5b, ↓S5m, ↓S5p, ↓S5mp, ↓S5pm, ↓S5pmp, ↓S5mpp, ↓S5pp, ↓N5b, ↓A6b, ↓S6b, ↓N6b, ↓A7b, ↓S7b, ↓N7b, ↓A8b, ↓S8b, ↓N8b, ↓A9b, ↓S9b, ↓N9b, ↓A84b, ↓S84b, ↓N84b, ↓A86b, ↓S86b, ↓N86b, ↓A88b, ↓S88b, ↓N88b, ↓A89b, ↓S89b, ↓N89b, ↓R10b, ↓R16b, ↓R27b, ↓R83b, ↓R87b, ↓R71b, ↓P0_2n, A2b, S2b, A3b, S3b, A4b, S4b, A5b, S5b, A6b, S6b, A7b, S7b, A8b, S8b, A9b, S9b, A84b, S84b, A86b, S86b, A88b, S88b, A89b, S89b, R10b, R16b, R27b, R83b, R87b, R71b, ↓zc e1, ↓zc e2, k, ↓HOb' (hkc_H hr6), ↓zc g1]
    exact e3
end
/-! the model -/
def MR (M : PM) (R : Nat → Nat) : Prop := ∀ j, j < 140 → M.1 127 j = nI (R j)
/-- the texts as the model keeps them -/
def HT (M : PM) (T : TT) (hc : Nat) : Prop := KT M ∧ hc ≤ 6 ∧ ∀ t, t < hc → (T t).1 ≤ 100 ∧ M.1 132 t = nI (T t).1 ∧ (∀ i, i < (T t).1 → M.1 131 (100 * t + i) = nI ((T t).2 i) ∧ (T t).2 i < 128) ∧ (pAll (T t).2 (T t).1).1 = true ∧ (pAll (T t).2 (T t).1).2.1 = (T t).1
/-- cells that the model uses as it asks -/
def FM (M M' : PM) : Prop := M'.2 = M.2 ∧ ∀ c j, ¬ (c = 133 ∨ c = 134 ∨ (c = 126 ∧ 10 ≤ j ∧ j ≤ 15)) → M'.1 c j = M.1 c j
theorem FM_refl {M : PM} : FM M M := ⟨rfl, fun _ _ _ => rfl⟩
theorem FM_trans {M M' M'' : PM} (h : FM M M') (h' : FM M' M'') : FM M M'' := ⟨h'.1.trans h.1, fun c j a => (h'.2 c j a).trans (h.2 c j a)⟩
theorem MR_M {M M' : PM} {R : Nat → Nat} (hF : FM M M') (h : MR M R) : MR M' R := fun j hj => by rw [hF.2 127 j (by omega)]; exact h j hj
theorem HT_e {M M' : PM} {T : TT} {hc : Nat} (hF : ∀ c j, (c = 131 ∨ c = 132 ∨ c = 135 ∨ c = 136 ∨ c = 137) → M'.1 c j = M.1 c j) (h : HT M T hc) : HT M' T hc := by
  obtain ⟨⟨k1, k2, k3⟩, h1, h2⟩ := h
  refine ⟨⟨fun i hi => by rw [hF _ _ (by omega)]; exact k1 i hi, fun i hi => by rw [hF _ _ (by omega)]; exact k2 i hi, fun i hi => by rw [hF _ _ (by omega)]; exact k3 i hi⟩, h1, fun t ht => ?_⟩
  obtain ⟨a1, a2, a3, a4⟩ := h2 t ht
  exact ⟨a1, by rw [hF _ _ (by omega)]; exact a2, fun i hi => by rw [hF _ _ (by omega)]; exact a3 i hi, a4⟩
theorem HT_M {M M' : PM} {T : TT} {hc : Nat} (hF : FM M M') (h : HT M T hc) : HT M' T hc := HT_e (fun c j q => hF.2 c j (by omega)) h
section
variable {z : Nat} (N : Nat) {R : Nat → Nat} {T : TT} {hc : Nat}
/-- the text is copied -/
theorem m_rfL {M0 : PM} {n t : Nat} (hn : n ≤ 100) (ht6 : t < 6) : ∀ m i (M : PM), i ≤ n → n - i < m → M.1 126 10 = nI n → M.2 = M0.2 → (∀ c j, ¬ (c = 133) → M.1 c j = M0.1 c j) → (∀ j, j < i → M.1 133 j = M0.1 131 (100 * t + j)) → ∃ M', zfix (fun _ _ _ _ => none) (bX12_readFor_103 N) m (enc z M) (z + 126) (nI t) (nI i) = zcall (fX12_readAll N (enc z M') (z + 126)) (fun _ h_2 => some ((), h_2)) ∧ M'.2 = M0.2 ∧ (∀ c j, ¬ (c = 133) → M'.1 c j = M0.1 c j) ∧ ∀ j, j < n → M'.1 133 j = M0.1 131 (100 * t + j) := by
  intro m
  induction m with
  | zero => intro i M _ h; omega
  | succ m ih =>
    intro i M hi hm h10 h2 hF hr
    rw [zfix_succ, bX12_readFor_103]
    simp only [lit]
    by_cases h : i = n
    · subst h
      refine ⟨M, ?_, h2, hF, hr⟩
      simp (disch := omega) only [↓znm_, ↓reduceIte, rn0, rn1, rbI, nle_t, nle_f, nlt_t, nlt_f, neq_t, neq_f, x_add, x_mul, x_sub, x_div, ↓x_rem, x_remN, setI_eq, setI_ne, setI_nk, setI_2, bn0, bn1, reduceCtorEq, ↓O126b, ↓G126_0b, ↓G126_1b, ↓G126_2b, ↓G126_3b, ↓P126_3b, ↓G126_4b, ↓G126_5b, ↓P126_5b, ↓G126_6b, ↓G126_7b, ↓G126_8b, ↓P126_8b, ↓G126_9b, ↓G126_10b, ↓P126_10b, ↓G126_11b, ↓P126_11b, ↓G126_12b, ↓P126_12b, ↓G126_13b, ↓P126_13b, ↓G126_14b, ↓P126_14b, ↓G126_15b, ↓P126_15b, ↓G126_16b, ↓G126_17b, ↓G126_18b, ↓G126_19b, ↓G126_20b, ↓G126_21b, ↓G126_22b, ↓G126_23b, ↓P126_23b, ↓G126_24b, ↓G126_25b, ↓G126_26b, ↓G126_27b, ↓A127b, ↓A127m, ↓A127p, ↓A127mp, ↓A127pm, ↓A127pmp, ↓A127mpp, ↓A127pp, ↓S127b, ↓S127m, ↓S127p, ↓S127mp, ↓S127pm, ↓S127pmp, ↓S127mpp, ↓S127pp, ↓N127b, ↓A128b, ↓S128b, ↓N128b, ↓A129b, ↓S129b, ↓N129b, ↓A130b, ↓S130b, ↓N130b, ↓A131b, ↓A131m, ↓A131p, ↓A131mp, ↓A131pm, ↓A131pmp, ↓A131mpp, ↓A131pp, ↓S131b, ↓S131m, ↓S131p, ↓S131mp, ↓S131pm, ↓S131pmp, ↓S131mpp, ↓S131pp, ↓N131b, ↓A132b, ↓S132b, ↓N132b, ↓A133b, ↓S133b, ↓N133b, ↓A134b, ↓S134b, ↓N134b, ↓A135b, ↓S135b, ↓N135b, ↓A136b, ↓S136b, ↓N136b, ↓A137b, ↓A137m, ↓A137p, ↓A137mp, ↓A137pm, ↓A137pmp, ↓A137mpp, ↓A137pp, ↓S137b, ↓S137m, ↓S137p, ↓S137mp, ↓S137pm, ↓S137pmp, ↓S137mpp, ↓S137pp, ↓N137b, ↓A138b, ↓S138b, ↓N138b, ↓A139b, ↓A139m, ↓A139p, ↓A139mp, ↓A139pm, ↓A139pmp, ↓A139mpp, ↓A139pp, ↓S139b, ↓S139m, ↓S139p, ↓S139mp, ↓S139pm, ↓S139pmp, ↓S139mpp, ↓S139pp, ↓N139b, ↓A140b, ↓S140b, ↓N140b, ↓A141b, ↓S141b, ↓N141b, ↓A142b, ↓S142b, ↓N142b, ↓A143b, ↓A143m, ↓A143p, ↓A143mp, ↓A143pm, ↓A143pmp, ↓A143mpp, ↓A143pp, ↓S143b, ↓S143m, ↓S143p, ↓S143mp, ↓S143pm, ↓S143pmp, ↓S143mpp, ↓S143pp, ↓A144b, ↓S144b, A127b, S127b, A128b, S128b, A129b, S129b, A130b, S130b, A131b, S131b, A132b, S132b, A133b, S133b, A134b, S134b, A135b, S135b, A136b, S136b, A137b, S137b, A138b, S138b, A139b, S139b, A140b, S140b, A141b, S141b, A142b, S142b, A143b, S143b, A144b, S144b, ↓P126_3n, ↓P126_12n, ↓P126_12o, h10]
    · have e := hF 131 (100 * t + i) (by omega)
      simp (disch := omega) only [↓znm_, ↓reduceIte, rn0, rn1, rbI, nle_t, nle_f, nlt_t, nlt_f, neq_t, neq_f, x_add, x_mul, x_sub, x_div, ↓x_rem, x_remN, setI_eq, setI_ne, setI_nk, setI_2, bn0, bn1, reduceCtorEq, ↓O126b, ↓G126_0b, ↓G126_1b, ↓G126_2b, ↓G126_3b, ↓P126_3b, ↓G126_4b, ↓G126_5b, ↓P126_5b, ↓G126_6b, ↓G126_7b, ↓G126_8b, ↓P126_8b, ↓G126_9b, ↓G126_10b, ↓P126_10b, ↓G126_11b, ↓P126_11b, ↓G126_12b, ↓P126_12b, ↓G126_13b, ↓P126_13b, ↓G126_14b, ↓P126_14b, ↓G126_15b, ↓P126_15b, ↓G126_16b, ↓G126_17b, ↓G126_18b, ↓G126_19b, ↓G126_20b, ↓G126_21b, ↓G126_22b, ↓G126_23b, ↓P126_23b, ↓G126_24b, ↓G126_25b, ↓G126_26b, ↓G126_27b, ↓A127b, ↓A127m, ↓A127p, ↓A127mp, ↓A127pm, ↓A127pmp, ↓A127mpp, ↓A127pp, ↓S127b, ↓S127m, ↓S127p, ↓S127mp, ↓S127pm, ↓S127pmp, ↓S127mpp, ↓S127pp, ↓N127b, ↓A128b, ↓S128b, ↓N128b, ↓A129b, ↓S129b, ↓N129b, ↓A130b, ↓S130b, ↓N130b, ↓A131b, ↓A131m, ↓A131p, ↓A131mp, ↓A131pm, ↓A131pmp, ↓A131mpp, ↓A131pp, ↓S131b, ↓S131m, ↓S131p, ↓S131mp, ↓S131pm, ↓S131pmp, ↓S131mpp, ↓S131pp, ↓N131b, ↓A132b, ↓S132b, ↓N132b, ↓A133b, ↓S133b, ↓N133b, ↓A134b, ↓S134b, ↓N134b, ↓A135b, ↓S135b, ↓N135b, ↓A136b, ↓S136b, ↓N136b, ↓A137b, ↓A137m, ↓A137p, ↓A137mp, ↓A137pm, ↓A137pmp, ↓A137mpp, ↓A137pp, ↓S137b, ↓S137m, ↓S137p, ↓S137mp, ↓S137pm, ↓S137pmp, ↓S137mpp, ↓S137pp, ↓N137b, ↓A138b, ↓S138b, ↓N138b, ↓A139b, ↓A139m, ↓A139p, ↓A139mp, ↓A139pm, ↓A139pmp, ↓A139mpp, ↓A139pp, ↓S139b, ↓S139m, ↓S139p, ↓S139mp, ↓S139pm, ↓S139pmp, ↓S139mpp, ↓S139pp, ↓N139b, ↓A140b, ↓S140b, ↓N140b, ↓A141b, ↓S141b, ↓N141b, ↓A142b, ↓S142b, ↓N142b, ↓A143b, ↓A143m, ↓A143p, ↓A143mp, ↓A143pm, ↓A143pmp, ↓A143mpp, ↓A143pp, ↓S143b, ↓S143m, ↓S143p, ↓S143mp, ↓S143pm, ↓S143pmp, ↓S143mpp, ↓S143pp, ↓A144b, ↓S144b, A127b, S127b, A128b, S128b, A129b, S129b, A130b, S130b, A131b, S131b, A132b, S132b, A133b, S133b, A134b, S134b, A135b, S135b, A136b, S136b, A137b, S137b, A138b, S138b, A139b, S139b, A140b, S140b, A141b, S141b, A142b, S142b, A143b, S143b, A144b, S144b, ↓P126_3n, ↓P126_12n, ↓P126_12o, h10, e]
      refine ih (i + 1) _ (by omega) (by omega) (by rw [setI_nk (by omega)]; exact h10) h2 (fun c j q => by rw [setI_nk q]; exact hF c j q) (fun j hj => ?_)
      by_cases q : j = i
      · subst q; exact setI_eq
      · rw [setI_ne q]; exact hr j (by omega)
theorem m_readFor (hN : 300 ≤ N) {M : PM} (hR : MR M R) (hT : HT M T hc) (h80 : R 80 ≤ hc) {i f d : Nat} (hi : i < 6) (hd : d < 100000) : ∃ M', fX12_readFor N (enc z M) (z + 126) (nI i) (nI f) (nI d) = some ((), enc z M') ∧ FM M M' ∧ M'.1 126 14 = sfn T (R 80) (nmf (i, R (7 * i), R (7 * i + 1), d) f) ∧ M'.1 126 15 = nI (hrs T (R 80)) := by
  have hc6 := hT.2.1
  have r1 := hR (7 * i) (by omega)
  have r2 := hR (7 * i + 1) (by omega)
  have r3 := hR 80 (by omega)
  have ek : ∀ M : PM, M.1 127 (7 * i) = nI (R (7 * i)) → fX12_kind N (enc z M) (z + 126) (nI i) = some (nI (R (7 * i)), enc z M) := by
    intro M r1
    rw [fX12_kind]; simp only [lit]; simp (disch := omega) only [↓znm_, ↓reduceIte, rn0, rn1, rbI, nle_t, nle_f, nlt_t, nlt_f, neq_t, neq_f, x_add, x_mul, x_sub, x_div, ↓x_rem, x_remN, setI_eq, setI_ne, setI_nk, setI_2, bn0, bn1, reduceCtorEq, ↓O126b, ↓G126_0b, ↓G126_1b, ↓G126_2b, ↓G126_3b, ↓P126_3b, ↓G126_4b, ↓G126_5b, ↓P126_5b, ↓G126_6b, ↓G126_7b, ↓G126_8b, ↓P126_8b, ↓G126_9b, ↓G126_10b, ↓P126_10b, ↓G126_11b, ↓P126_11b, ↓G126_12b, ↓P126_12b, ↓G126_13b, ↓P126_13b, ↓G126_14b, ↓P126_14b, ↓G126_15b, ↓P126_15b, ↓G126_16b, ↓G126_17b, ↓G126_18b, ↓G126_19b, ↓G126_20b, ↓G126_21b, ↓G126_22b, ↓G126_23b, ↓P126_23b, ↓G126_24b, ↓G126_25b, ↓G126_26b, ↓G126_27b, ↓A127b, ↓A127m, ↓A127p, ↓A127mp, ↓A127pm, ↓A127pmp, ↓A127mpp, ↓A127pp, ↓S127b, ↓S127m, ↓S127p, ↓S127mp, ↓S127pm, ↓S127pmp, ↓S127mpp, ↓S127pp, ↓N127b, ↓A128b, ↓S128b, ↓N128b, ↓A129b, ↓S129b, ↓N129b, ↓A130b, ↓S130b, ↓N130b, ↓A131b, ↓A131m, ↓A131p, ↓A131mp, ↓A131pm, ↓A131pmp, ↓A131mpp, ↓A131pp, ↓S131b, ↓S131m, ↓S131p, ↓S131mp, ↓S131pm, ↓S131pmp, ↓S131mpp, ↓S131pp, ↓N131b, ↓A132b, ↓S132b, ↓N132b, ↓A133b, ↓S133b, ↓N133b, ↓A134b, ↓S134b, ↓N134b, ↓A135b, ↓S135b, ↓N135b, ↓A136b, ↓S136b, ↓N136b, ↓A137b, ↓A137m, ↓A137p, ↓A137mp, ↓A137pm, ↓A137pmp, ↓A137mpp, ↓A137pp, ↓S137b, ↓S137m, ↓S137p, ↓S137mp, ↓S137pm, ↓S137pmp, ↓S137mpp, ↓S137pp, ↓N137b, ↓A138b, ↓S138b, ↓N138b, ↓A139b, ↓A139m, ↓A139p, ↓A139mp, ↓A139pm, ↓A139pmp, ↓A139mpp, ↓A139pp, ↓S139b, ↓S139m, ↓S139p, ↓S139mp, ↓S139pm, ↓S139pmp, ↓S139mpp, ↓S139pp, ↓N139b, ↓A140b, ↓S140b, ↓N140b, ↓A141b, ↓S141b, ↓N141b, ↓A142b, ↓S142b, ↓N142b, ↓A143b, ↓A143m, ↓A143p, ↓A143mp, ↓A143pm, ↓A143pmp, ↓A143mpp, ↓A143pp, ↓S143b, ↓S143m, ↓S143p, ↓S143mp, ↓S143pm, ↓S143pmp, ↓S143mpp, ↓S143pp, ↓A144b, ↓S144b, A127b, S127b, A128b, S128b, A129b, S129b, A130b, S130b, A131b, S131b, A132b, S132b, A133b, S133b, A134b, S134b, A135b, S135b, A136b, S136b, A137b, S137b, A138b, S138b, A139b, S139b, A140b, S140b, A141b, S141b, A142b, S142b, A143b, S143b, A144b, S144b, ↓P126_3n, ↓P126_12n, ↓P126_12o, r1]
  have ev : ∀ M : PM, M.1 127 (7 * i + 1) = nI (R (7 * i + 1)) → fX12_v N (enc z M) (z + 126) (nI i) = some (nI (R (7 * i + 1)), enc z M) := by
    intro M r1
    rw [fX12_v]; simp only [lit]; simp (disch := omega) only [↓znm_, ↓reduceIte, rn0, rn1, rbI, nle_t, nle_f, nlt_t, nlt_f, neq_t, neq_f, x_add, x_mul, x_sub, x_div, ↓x_rem, x_remN, setI_eq, setI_ne, setI_nk, setI_2, bn0, bn1, reduceCtorEq, ↓O126b, ↓G126_0b, ↓G126_1b, ↓G126_2b, ↓G126_3b, ↓P126_3b, ↓G126_4b, ↓G126_5b, ↓P126_5b, ↓G126_6b, ↓G126_7b, ↓G126_8b, ↓P126_8b, ↓G126_9b, ↓G126_10b, ↓P126_10b, ↓G126_11b, ↓P126_11b, ↓G126_12b, ↓P126_12b, ↓G126_13b, ↓P126_13b, ↓G126_14b, ↓P126_14b, ↓G126_15b, ↓P126_15b, ↓G126_16b, ↓G126_17b, ↓G126_18b, ↓G126_19b, ↓G126_20b, ↓G126_21b, ↓G126_22b, ↓G126_23b, ↓P126_23b, ↓G126_24b, ↓G126_25b, ↓G126_26b, ↓G126_27b, ↓A127b, ↓A127m, ↓A127p, ↓A127mp, ↓A127pm, ↓A127pmp, ↓A127mpp, ↓A127pp, ↓S127b, ↓S127m, ↓S127p, ↓S127mp, ↓S127pm, ↓S127pmp, ↓S127mpp, ↓S127pp, ↓N127b, ↓A128b, ↓S128b, ↓N128b, ↓A129b, ↓S129b, ↓N129b, ↓A130b, ↓S130b, ↓N130b, ↓A131b, ↓A131m, ↓A131p, ↓A131mp, ↓A131pm, ↓A131pmp, ↓A131mpp, ↓A131pp, ↓S131b, ↓S131m, ↓S131p, ↓S131mp, ↓S131pm, ↓S131pmp, ↓S131mpp, ↓S131pp, ↓N131b, ↓A132b, ↓S132b, ↓N132b, ↓A133b, ↓S133b, ↓N133b, ↓A134b, ↓S134b, ↓N134b, ↓A135b, ↓S135b, ↓N135b, ↓A136b, ↓S136b, ↓N136b, ↓A137b, ↓A137m, ↓A137p, ↓A137mp, ↓A137pm, ↓A137pmp, ↓A137mpp, ↓A137pp, ↓S137b, ↓S137m, ↓S137p, ↓S137mp, ↓S137pm, ↓S137pmp, ↓S137mpp, ↓S137pp, ↓N137b, ↓A138b, ↓S138b, ↓N138b, ↓A139b, ↓A139m, ↓A139p, ↓A139mp, ↓A139pm, ↓A139pmp, ↓A139mpp, ↓A139pp, ↓S139b, ↓S139m, ↓S139p, ↓S139mp, ↓S139pm, ↓S139pmp, ↓S139mpp, ↓S139pp, ↓N139b, ↓A140b, ↓S140b, ↓N140b, ↓A141b, ↓S141b, ↓N141b, ↓A142b, ↓S142b, ↓N142b, ↓A143b, ↓A143m, ↓A143p, ↓A143mp, ↓A143pm, ↓A143pmp, ↓A143mpp, ↓A143pp, ↓S143b, ↓S143m, ↓S143p, ↓S143mp, ↓S143pm, ↓S143pmp, ↓S143mpp, ↓S143pp, ↓A144b, ↓S144b, A127b, S127b, A128b, S128b, A129b, S129b, A130b, S130b, A131b, S131b, A132b, S132b, A133b, S133b, A134b, S134b, A135b, S135b, A136b, S136b, A137b, S137b, A138b, S138b, A139b, S139b, A140b, S140b, A141b, S141b, A142b, S142b, A143b, S143b, A144b, S144b, ↓P126_3n, ↓P126_12n, ↓P126_12o, r1]
  rw [fX12_readFor]
  simp (disch := omega) only [lit, ↓x_rem]
  have ek1 := ek (setI M 134 0 (nI i)) (by rw [setI_nk (by omega)]; exact r1)
  have ev1 := ev (setI (setI M 134 0 (nI i)) 134 1 (nI (R (7 * i)))) (by rw [setI_nk (by omega), setI_nk (by omega)]; exact r2)
  generalize hM1 : setI (setI (setI (setI (setI (setI M 134 0 (nI i)) 134 1 (nI (R (7 * i)))) 134 2 (nI (R (7 * i + 1)))) 134 3 (nI f)) 134 4 (nI (d % 10))) 134 5 (nI (d % 7)) = M1
  have hF1 : ∀ c j, ¬ c = 134 → M1.1 c j = M.1 c j := by
    intro c j q
    rw [← hM1, setI_nk q, setI_nk q, setI_nk q, setI_nk q, setI_nk q, setI_nk q]
  have hB1 : M1.2 = M.2 := by rw [← hM1]; rfl
  have hnm : ∀ j, j < 6 → M1.1 134 j = nmf (i, R (7 * i), R (7 * i + 1), d) f j := by
    intro j hj
    rw [← hM1]
    rcases (show j = 0 ∨ j = 1 ∨ j = 2 ∨ j = 3 ∨ j = 4 ∨ j = 5 by omega) with rfl | rfl | rfl | rfl | rfl | rfl <;> rfl
  have r3' : M1.1 127 80 = nI (R 80) := by rw [hF1 _ _ (by omega)]; exact r3
  by_cases q : R 80 = 0
  · refine ⟨setI (setI M1 126 14 (nI 1)) 126 15 (nI 6), ?_, ⟨by rw [setI_2, setI_2]; exact hB1, fun c j w => ?_⟩, ?_, ?_⟩
    · simp (disch := omega) only [↓znm_, ↓reduceIte, rn0, rn1, rbI, nle_t, nle_f, nlt_t, nlt_f, neq_t, neq_f, x_add, x_mul, x_sub, x_div, ↓x_rem, x_remN, setI_eq, setI_ne, setI_nk, setI_2, bn0, bn1, reduceCtorEq, ↓O126b, ↓G126_0b, ↓G126_1b, ↓G126_2b, ↓G126_3b, ↓P126_3b, ↓G126_4b, ↓G126_5b, ↓P126_5b, ↓G126_6b, ↓G126_7b, ↓G126_8b, ↓P126_8b, ↓G126_9b, ↓G126_10b, ↓P126_10b, ↓G126_11b, ↓P126_11b, ↓G126_12b, ↓P126_12b, ↓G126_13b, ↓P126_13b, ↓G126_14b, ↓P126_14b, ↓G126_15b, ↓P126_15b, ↓G126_16b, ↓G126_17b, ↓G126_18b, ↓G126_19b, ↓G126_20b, ↓G126_21b, ↓G126_22b, ↓G126_23b, ↓P126_23b, ↓G126_24b, ↓G126_25b, ↓G126_26b, ↓G126_27b, ↓A127b, ↓A127m, ↓A127p, ↓A127mp, ↓A127pm, ↓A127pmp, ↓A127mpp, ↓A127pp, ↓S127b, ↓S127m, ↓S127p, ↓S127mp, ↓S127pm, ↓S127pmp, ↓S127mpp, ↓S127pp, ↓N127b, ↓A128b, ↓S128b, ↓N128b, ↓A129b, ↓S129b, ↓N129b, ↓A130b, ↓S130b, ↓N130b, ↓A131b, ↓A131m, ↓A131p, ↓A131mp, ↓A131pm, ↓A131pmp, ↓A131mpp, ↓A131pp, ↓S131b, ↓S131m, ↓S131p, ↓S131mp, ↓S131pm, ↓S131pmp, ↓S131mpp, ↓S131pp, ↓N131b, ↓A132b, ↓S132b, ↓N132b, ↓A133b, ↓S133b, ↓N133b, ↓A134b, ↓S134b, ↓N134b, ↓A135b, ↓S135b, ↓N135b, ↓A136b, ↓S136b, ↓N136b, ↓A137b, ↓A137m, ↓A137p, ↓A137mp, ↓A137pm, ↓A137pmp, ↓A137mpp, ↓A137pp, ↓S137b, ↓S137m, ↓S137p, ↓S137mp, ↓S137pm, ↓S137pmp, ↓S137mpp, ↓S137pp, ↓N137b, ↓A138b, ↓S138b, ↓N138b, ↓A139b, ↓A139m, ↓A139p, ↓A139mp, ↓A139pm, ↓A139pmp, ↓A139mpp, ↓A139pp, ↓S139b, ↓S139m, ↓S139p, ↓S139mp, ↓S139pm, ↓S139pmp, ↓S139mpp, ↓S139pp, ↓N139b, ↓A140b, ↓S140b, ↓N140b, ↓A141b, ↓S141b, ↓N141b, ↓A142b, ↓S142b, ↓N142b, ↓A143b, ↓A143m, ↓A143p, ↓A143mp, ↓A143pm, ↓A143pmp, ↓A143mpp, ↓A143pp, ↓S143b, ↓S143m, ↓S143p, ↓S143mp, ↓S143pm, ↓S143pmp, ↓S143mpp, ↓S143pp, ↓A144b, ↓S144b, A127b, S127b, A128b, S128b, A129b, S129b, A130b, S130b, A131b, S131b, A132b, S132b, A133b, S133b, A134b, S134b, A135b, S135b, A136b, S136b, A137b, S137b, A138b, S138b, A139b, S139b, A140b, S140b, A141b, S141b, A142b, S142b, A143b, S143b, A144b, S144b, ↓P126_3n, ↓P126_12n, ↓P126_12o, ↓zc ek1, ↓zc ev1, hM1, r3', q]
    · rw [setI_at, if_neg (by omega), setI_at, if_neg (by omega)]; exact hF1 c j (by omega)
    · rw [setI_ne (by omega), setI_eq, q]; rfl
    · rw [setI_eq, q]; rfl
  · obtain ⟨t1, t2, t3, t4, t5⟩ := hT.2.2 (R 80 - 1) (by omega)
    have r4 : M1.1 132 (R 80 - 1) = nI (T (R 80 - 1)).1 := by rw [hF1 _ _ (by omega)]; exact t2
    obtain ⟨M2, g1, g2, g3, g4⟩ := m_rfL (z := z) N (M0 := setI M1 126 10 (nI (T (R 80 - 1)).1)) t1 (t := R 80 - 1) (by omega) N 0 (setI M1 126 10 (nI (T (R 80 - 1)).1)) (by omega) (by omega) setI_eq rfl (fun _ _ _ => rfl) (fun j hj => by omega)
    have hX : MX M2 (T (R 80 - 1)).1 (T (R 80 - 1)).2 := by
      refine ⟨by rw [g3 _ _ (by omega)]; exact setI_eq, t1, fun j hj => ?_, ?_⟩
      · rw [g4 j hj, setI_nk (by omega), hF1 _ _ (by omega)]; exact t3 j hj
      · obtain ⟨k1, k2, k3⟩ := hT.1
        exact ⟨fun j hj => by rw [g3 _ _ (by omega), setI_nk (by omega), hF1 _ _ (by omega)]; exact k1 j hj, fun j hj => by rw [g3 _ _ (by omega), setI_nk (by omega), hF1 _ _ (by omega)]; exact k2 j hj, fun j hj => by rw [g3 _ _ (by omega), setI_nk (by omega), hF1 _ _ (by omega)]; exact k3 j hj⟩
    obtain ⟨M3, k1, k2, k3, k4⟩ := m_all (z := z) N hN hX (nm := nmf (i, R (7 * i), R (7 * i + 1), d) f) (fun j hj => by rw [g3 _ _ (by omega), setI_nk (by omega)]; exact hnm j hj)
    refine ⟨M3, ?_, ⟨by rw [k2.1, g2]; exact hB1, fun c j w => ?_⟩, ?_, ?_⟩
    · simp (disch := omega) only [↓znm_, ↓reduceIte, rn0, rn1, rbI, nle_t, nle_f, nlt_t, nlt_f, neq_t, neq_f, x_add, x_mul, x_sub, x_div, ↓x_rem, x_remN, setI_eq, setI_ne, setI_nk, setI_2, bn0, bn1, reduceCtorEq, ↓O126b, ↓G126_0b, ↓G126_1b, ↓G126_2b, ↓G126_3b, ↓P126_3b, ↓G126_4b, ↓G126_5b, ↓P126_5b, ↓G126_6b, ↓G126_7b, ↓G126_8b, ↓P126_8b, ↓G126_9b, ↓G126_10b, ↓P126_10b, ↓G126_11b, ↓P126_11b, ↓G126_12b, ↓P126_12b, ↓G126_13b, ↓P126_13b, ↓G126_14b, ↓P126_14b, ↓G126_15b, ↓P126_15b, ↓G126_16b, ↓G126_17b, ↓G126_18b, ↓G126_19b, ↓G126_20b, ↓G126_21b, ↓G126_22b, ↓G126_23b, ↓P126_23b, ↓G126_24b, ↓G126_25b, ↓G126_26b, ↓G126_27b, ↓A127b, ↓A127m, ↓A127p, ↓A127mp, ↓A127pm, ↓A127pmp, ↓A127mpp, ↓A127pp, ↓S127b, ↓S127m, ↓S127p, ↓S127mp, ↓S127pm, ↓S127pmp, ↓S127mpp, ↓S127pp, ↓N127b, ↓A128b, ↓S128b, ↓N128b, ↓A129b, ↓S129b, ↓N129b, ↓A130b, ↓S130b, ↓N130b, ↓A131b, ↓A131m, ↓A131p, ↓A131mp, ↓A131pm, ↓A131pmp, ↓A131mpp, ↓A131pp, ↓S131b, ↓S131m, ↓S131p, ↓S131mp, ↓S131pm, ↓S131pmp, ↓S131mpp, ↓S131pp, ↓N131b, ↓A132b, ↓S132b, ↓N132b, ↓A133b, ↓S133b, ↓N133b, ↓A134b, ↓S134b, ↓N134b, ↓A135b, ↓S135b, ↓N135b, ↓A136b, ↓S136b, ↓N136b, ↓A137b, ↓A137m, ↓A137p, ↓A137mp, ↓A137pm, ↓A137pmp, ↓A137mpp, ↓A137pp, ↓S137b, ↓S137m, ↓S137p, ↓S137mp, ↓S137pm, ↓S137pmp, ↓S137mpp, ↓S137pp, ↓N137b, ↓A138b, ↓S138b, ↓N138b, ↓A139b, ↓A139m, ↓A139p, ↓A139mp, ↓A139pm, ↓A139pmp, ↓A139mpp, ↓A139pp, ↓S139b, ↓S139m, ↓S139p, ↓S139mp, ↓S139pm, ↓S139pmp, ↓S139mpp, ↓S139pp, ↓N139b, ↓A140b, ↓S140b, ↓N140b, ↓A141b, ↓S141b, ↓N141b, ↓A142b, ↓S142b, ↓N142b, ↓A143b, ↓A143m, ↓A143p, ↓A143mp, ↓A143pm, ↓A143pmp, ↓A143mpp, ↓A143pp, ↓S143b, ↓S143m, ↓S143p, ↓S143mp, ↓S143pm, ↓S143pmp, ↓S143mpp, ↓S143pp, ↓A144b, ↓S144b, A127b, S127b, A128b, S128b, A129b, S129b, A130b, S130b, A131b, S131b, A132b, S132b, A133b, S133b, A134b, S134b, A135b, S135b, A136b, S136b, A137b, S137b, A138b, S138b, A139b, S139b, A140b, S140b, A141b, S141b, A142b, S142b, A143b, S143b, A144b, S144b, ↓P126_3n, ↓P126_12n, ↓P126_12o, ↓zc ek1, ↓zc ev1, hM1, r3', r4]
      rw [g1, k1, zcall_some]
    · rw [k2.2 c j (by omega), g3 c j (by omega), setI_at, if_neg (by omega)]; exact hF1 c j (by omega)
    · rw [(k4 t4).2]; unfold sfn; rw [if_neg q]
    · rw [(k4 t4).1]; unfold hrs; rw [if_neg q]
end
