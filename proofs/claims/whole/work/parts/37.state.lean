/-! What both sides hold: a row R of 140 numbers, the texts T of the houses, how many -/
abbrev TT : Type := Nat → Nat × (Nat → Nat)
def hrs (T : TT) (r : Nat) : Nat := if r = 0 then 6 else (pAll (T (r - 1)).2 (T (r - 1)).1).2.2.1
def sfn (T : TT) (r : Nat) : SF := if r = 0 then fun _ => nI 1 else (pAll (T (r - 1)).2 (T (r - 1)).1).2.2.2
def hkc (r : Nat) : Nat := if r = 0 then 79 else 90 + 4 * (r - 1)
def hdI (r : Nat) : Int32 := if r = 0 then -nI 1 else nI (r - 1)
theorem hkc_H {r : Nat} (h : r ≤ 6) : isH (hkc r) := by
  unfold hkc
  by_cases q : r = 0
  · rw [if_pos q]; exact Or.inl rfl
  · rw [if_neg q]; exact Or.inr ⟨r - 1, by omega, rfl⟩
def grV (s : Int32) (kd v f d mr : Nat) : Int32 :=
  if kd = 1 then (if v ≤ f then s + nI 0 else s + nI 2)
  else if kd = 2 then (if d % 2 = 1 then nI 0 else s)
  else if kd = 3 then s / nI 2
  else if kd = 4 then (if f = v % 8 then nI 0 else (if v ≤ f then s + nI 0 else s + nI 2))
  else if kd = 5 then (if d % 2 = 1 then nI 0 else s) + nI (v % 3)
  else if kd = 6 then s / nI 2 + nI mr
  else s
def grF (S : SF) (kd v : Nat) (mr : Nat → Nat) (p f d : Nat) : Int32 := grV (S (nmf (p, kd, v, d) f)) kd v f d (mr (d % 4))
def kp (S : SF) (kd v : Nat) (mr : Nat → Nat) (p facts d : Nat) : Nat := mkN (fun f => facts.testBit f && decide (nI 0 < grF S kd v mr p f d)) 8
def KK (T : TT) (R : Nat → Nat) (v p facts d : Nat) : Nat := kp (sfn T (R 80)) (R (7 * p)) v (fun q => R (7 * p + 3 + q)) p facts d
def GG (T : TT) (R : Nat → Nat) (v p f d : Nat) : Int32 := grF (sfn T (R 80)) (R (7 * p)) v (fun q => R (7 * p + 3 + q)) p f d
theorem KK_lt {T : TT} {R : Nat → Nat} {v p facts d : Nat} : KK T R v p facts d < 256 := mkN_lt _ 8
theorem KK_0 {T : TT} {R : Nat → Nat} {v p d : Nat} : KK T R v p 0 d = 0 := by
  apply Nat.eq_of_testBit_eq
  intro i
  unfold KK kp
  rw [mkN_bit, Nat.zero_testBit]
  simp
/-- what the class needs to know of a household for grips and nights -/
def KR (M : PM) (R : Nat → Nat) (T : TT) (hc : Nat) : Prop :=
  M.1 1 0 = nI (R 76) ∧ R 76 ≤ 6 ∧ M.1 1 13 = hdI (R 80) ∧ R 80 ≤ hc ∧ M.1 0 6 = nI hc ∧ hc ≤ 6 ∧
  (∀ p, p < 6 → M.1 2 p = nI (R (7 * p)) ∧ R (7 * p) ≤ 6) ∧ (∀ p, p < 6 → ∀ q, q < 4 → M.1 5 (p * 4 + q) = nI (R (7 * p + 3 + q))) ∧
  HK M 79 6 (fun _ => nI 1) ∧ ∀ t, t < hc → HK M (90 + 4 * t) (hrs T (t + 1)) (sfn T (t + 1))
/-- cells that the class uses as it asks -/
def FQ (M M' : PM) : Prop := M'.2 = M.2 ∧ ∀ c j, ¬ (c = 88 ∨ c = 81 ∨ (c = 79 ∧ j = 4) ∨ (90 ≤ c ∧ c < 114 ∧ ((c - 90) % 4 = 2 ∨ ((c - 90) % 4 = 0 ∧ j = 4)))) → M'.1 c j = M.1 c j
theorem FQ_refl {M : PM} : FQ M M := ⟨rfl, fun _ _ _ => rfl⟩
theorem FQ_trans {M M' M'' : PM} (h : FQ M M') (h' : FQ M' M'') : FQ M M'' := ⟨h'.1.trans h.1, fun c j a => (h'.2 c j a).trans (h.2 c j a)⟩
theorem FQ_W {k : Nat} {M M' : PM} (hk : isH k) (h : FW k M M') : FQ M M' := ⟨h.1, fun c j q => h.2 c j (by omega) (by rcases hk with rfl | ⟨t, ht, rfl⟩ <;> omega) (by rcases hk with rfl | ⟨t, ht, rfl⟩ <;> omega)⟩
theorem HK_Q {M M' : PM} {k h : Nat} {S : SF} (hk : isH k) (hF : FQ M M') (hH : HK M k h S) : HK M' k h S := by
  obtain ⟨L, h1, h2, h3⟩ := hH
  refine ⟨L, ⟨h1.1, ?_, fun i hi => ?_, h1.2.2.2⟩, h2, ?_⟩
  · rw [hF.2 k 2 (by rcases hk with rfl | ⟨t, ht, rfl⟩ <;> omega)]; exact h1.2.1
  · rw [hF.2 (k + 1) i (by rcases hk with rfl | ⟨t, ht, rfl⟩ <;> omega)]; exact h1.2.2.1 i hi
  · rw [hF.2 k 0 (by rcases hk with rfl | ⟨t, ht, rfl⟩ <;> omega)]; exact h3
theorem KR_Q {M M' : PM} {R : Nat → Nat} {T : TT} {hc : Nat} (hF : FQ M M') (h : KR M R T hc) : KR M' R T hc := by
  obtain ⟨h1, h2, h3, h4, h5, h6, h7, h8, h9, h10⟩ := h
  refine ⟨by rw [hF.2 1 0 (by omega)]; exact h1, h2, by rw [hF.2 1 13 (by omega)]; exact h3, h4, by rw [hF.2 0 6 (by omega)]; exact h5, h6, fun p hp => by rw [hF.2 2 p (by omega)]; exact h7 p hp, fun p hp q hq => by rw [hF.2 5 _ (by omega)]; exact h8 p hp q hq, HK_Q (Or.inl rfl) hF h9, fun t ht => HK_Q (Or.inr ⟨t, by omega, rfl⟩) hF (h10 t ht)⟩
theorem KR_H {M : PM} {R : Nat → Nat} {T : TT} {hc : Nat} (h : KR M R T hc) : HK M (hkc (R 80)) (hrs T (R 80)) (sfn T (R 80)) := by
  obtain ⟨h1, h2, h3, h4, h5, h6, h7, h8, h9, h10⟩ := h
  unfold hkc
  by_cases q : R 80 = 0
  · rw [if_pos q, q]; exact h9
  · rw [if_neg q]
    have := h10 (R 80 - 1) (by omega)
    rw [show R 80 - 1 + 1 = R 80 by omega] at this
    exact this
section
variable {z : Nat} (N : Nat) {M : PM} {R : Nat → Nat} {T : TT} {hc : Nat}
theorem c_hold (h : KR M R T hc) : fX11_holding N (enc z M) z = some (z + hkc (R 80), enc z M) := by
  obtain ⟨h1, h2, h3, h4, h5, h6, h7, h8, h9, h10⟩ := h
  rw [fX11_holding]
  simp only [lit]
  unfold hkc
  by_cases q : R 80 = 0
  · rw [if_pos q]
    have h3 : M.1 1 13 = -nI 1 := by rw [h3, q]; rfl
    have f1 : (-nI 1 < nI 0) = True := by decide
    simp (disch := omega) only [↓znm_, ↓reduceIte, rn0, rn1, rbI, nle_t, nle_f, nlt_t, nlt_f, neq_t, neq_f, x_add, x_mul, x_sub, x_div, ↓x_rem, x_remN, setI_eq, setI_ne, setI_nk, setI_2, bn0, bn1, reduceCtorEq, ↓O0b, ↓G0_0b, ↓G0_1b, ↓G0_2b, ↓P0_2b, ↓G0_3b, ↓G0_4b, ↓G0_5b, ↓G0_6b, ↓P0_6b, ↓G0_7b, ↓G0_8b, ↓P0_8b, ↓G0_9b, ↓G0_10b, ↓G0_11b, ↓G0_12b, ↓O1b, ↓G1_0b, ↓P1_0b, ↓G1_1b, ↓G1_2b, ↓G1_3b, ↓G1_4b, ↓G1_5b, ↓P1_5b, ↓G1_6b, ↓G1_7b, ↓G1_8b, ↓G1_9b, ↓P1_9b, ↓G1_10b, ↓G1_11b, ↓P1_11b, ↓G1_12b, ↓P1_12b, ↓G1_13b, ↓P1_13b, ↓G1_14b, ↓P1_14b, ↓G1_15b, ↓G1_16b, ↓P1_16b, ↓G1_17b, ↓G1_18b, ↓P1_18b, ↓G1_19b, ↓O85b, ↓G85_0b, ↓P85_0b, ↓G85_1b, ↓P85_1b, ↓G85_2b, ↓P85_2b, ↓G85_3b, ↓A2b, ↓S2b, ↓N2b, ↓A3b, ↓S3b, ↓N3b, ↓A4b, ↓S4b, ↓N4b, ↓A5b, ↓A5m, ↓A5p, ↓A5mp, ↓A5pm, ↓A5pmp, ↓A5mpp, ↓A5pp, ↓S5b, ↓S5m, ↓S5p, ↓S5mp, ↓S5pm, ↓S5pmp, ↓S5mpp, ↓S5pp, ↓N5b, ↓A6b, ↓S6b, ↓N6b, ↓A7b, ↓S7b, ↓N7b, ↓A8b, ↓S8b, ↓N8b, ↓A9b, ↓S9b, ↓N9b, ↓A84b, ↓S84b, ↓N84b, ↓A86b, ↓S86b, ↓N86b, ↓A88b, ↓S88b, ↓N88b, ↓A89b, ↓S89b, ↓N89b, ↓R10b, ↓R16b, ↓R27b, ↓R83b, ↓R87b, ↓R71b, ↓P0_2n, A2b, S2b, A3b, S3b, A4b, S4b, A5b, S5b, A6b, S6b, A7b, S7b, A8b, S8b, A9b, S9b, A84b, S84b, A86b, S86b, A88b, S88b, A89b, S89b, R10b, R16b, R27b, R83b, R87b, R71b, h3, f1]
  · rw [if_neg q]
    have h3 : M.1 1 13 = nI (R 80 - 1) := by rw [h3]; unfold hdI; rw [if_neg q]
    simp (disch := omega) only [↓znm_, ↓reduceIte, rn0, rn1, rbI, nle_t, nle_f, nlt_t, nlt_f, neq_t, neq_f, x_add, x_mul, x_sub, x_div, ↓x_rem, x_remN, setI_eq, setI_ne, setI_nk, setI_2, bn0, bn1, reduceCtorEq, ↓O0b, ↓G0_0b, ↓G0_1b, ↓G0_2b, ↓P0_2b, ↓G0_3b, ↓G0_4b, ↓G0_5b, ↓G0_6b, ↓P0_6b, ↓G0_7b, ↓G0_8b, ↓P0_8b, ↓G0_9b, ↓G0_10b, ↓G0_11b, ↓G0_12b, ↓O1b, ↓G1_0b, ↓P1_0b, ↓G1_1b, ↓G1_2b, ↓G1_3b, ↓G1_4b, ↓G1_5b, ↓P1_5b, ↓G1_6b, ↓G1_7b, ↓G1_8b, ↓G1_9b, ↓P1_9b, ↓G1_10b, ↓G1_11b, ↓P1_11b, ↓G1_12b, ↓P1_12b, ↓G1_13b, ↓P1_13b, ↓G1_14b, ↓P1_14b, ↓G1_15b, ↓G1_16b, ↓P1_16b, ↓G1_17b, ↓G1_18b, ↓P1_18b, ↓G1_19b, ↓O85b, ↓G85_0b, ↓P85_0b, ↓G85_1b, ↓P85_1b, ↓G85_2b, ↓P85_2b, ↓G85_3b, ↓A2b, ↓S2b, ↓N2b, ↓A3b, ↓S3b, ↓N3b, ↓A4b, ↓S4b, ↓N4b, ↓A5b, ↓A5m, ↓A5p, ↓A5mp, ↓A5pm, ↓A5pmp, ↓A5mpp, ↓A5pp, ↓S5b, ↓S5m, ↓S5p, ↓S5mp, ↓S5pm, ↓S5pmp, ↓S5mpp, ↓S5pp, ↓N5b, ↓A6b, ↓S6b, ↓N6b, ↓A7b, ↓S7b, ↓N7b, ↓A8b, ↓S8b, ↓N8b, ↓A9b, ↓S9b, ↓N9b, ↓A84b, ↓S84b, ↓N84b, ↓A86b, ↓S86b, ↓N86b, ↓A88b, ↓S88b, ↓N88b, ↓A89b, ↓S89b, ↓N89b, ↓R10b, ↓R16b, ↓R27b, ↓R83b, ↓R87b, ↓R71b, ↓P0_2n, A2b, S2b, A3b, S3b, A4b, S4b, A5b, S5b, A6b, S6b, A7b, S7b, A8b, S8b, A9b, S9b, A84b, S84b, A86b, S86b, A88b, S88b, A89b, S89b, R10b, R16b, R27b, R83b, R87b, R71b, h3, h5]
theorem c_manners (h : KR M R T hc) {p : Nat} (hp : p < 6) : fX11_mannersOf N (enc z M) z (nI p) = some (z + (72 + R (7 * p)), enc z M) := by
  obtain ⟨h1, h2, h3, h4, h5, h6, h7, h8, h9, h10⟩ := h
  have k := h7 p hp
  rw [fX11_mannersOf]
  simp only [lit]
  simp (disch := omega) only [↓znm_, ↓reduceIte, rn0, rn1, rbI, nle_t, nle_f, nlt_t, nlt_f, neq_t, neq_f, x_add, x_mul, x_sub, x_div, ↓x_rem, x_remN, setI_eq, setI_ne, setI_nk, setI_2, bn0, bn1, reduceCtorEq, ↓O0b, ↓G0_0b, ↓G0_1b, ↓G0_2b, ↓P0_2b, ↓G0_3b, ↓G0_4b, ↓G0_5b, ↓G0_6b, ↓P0_6b, ↓G0_7b, ↓G0_8b, ↓P0_8b, ↓G0_9b, ↓G0_10b, ↓G0_11b, ↓G0_12b, ↓O1b, ↓G1_0b, ↓P1_0b, ↓G1_1b, ↓G1_2b, ↓G1_3b, ↓G1_4b, ↓G1_5b, ↓P1_5b, ↓G1_6b, ↓G1_7b, ↓G1_8b, ↓G1_9b, ↓P1_9b, ↓G1_10b, ↓G1_11b, ↓P1_11b, ↓G1_12b, ↓P1_12b, ↓G1_13b, ↓P1_13b, ↓G1_14b, ↓P1_14b, ↓G1_15b, ↓G1_16b, ↓P1_16b, ↓G1_17b, ↓G1_18b, ↓P1_18b, ↓G1_19b, ↓O85b, ↓G85_0b, ↓P85_0b, ↓G85_1b, ↓P85_1b, ↓G85_2b, ↓P85_2b, ↓G85_3b, ↓A2b, ↓S2b, ↓N2b, ↓A3b, ↓S3b, ↓N3b, ↓A4b, ↓S4b, ↓N4b, ↓A5b, ↓A5m, ↓A5p, ↓A5mp, ↓A5pm, ↓A5pmp, ↓A5mpp, ↓A5pp, ↓S5b, ↓S5m, ↓S5p, ↓S5mp, ↓S5pm, ↓S5pmp, ↓S5mpp, ↓S5pp, ↓N5b, ↓A6b, ↓S6b, ↓N6b, ↓A7b, ↓S7b, ↓N7b, ↓A8b, ↓S8b, ↓N8b, ↓A9b, ↓S9b, ↓N9b, ↓A84b, ↓S84b, ↓N84b, ↓A86b, ↓S86b, ↓N86b, ↓A88b, ↓S88b, ↓N88b, ↓A89b, ↓S89b, ↓N89b, ↓R10b, ↓R16b, ↓R27b, ↓R83b, ↓R87b, ↓R71b, ↓P0_2n, A2b, S2b, A3b, S3b, A4b, S4b, A5b, S5b, A6b, S6b, A7b, S7b, A8b, S8b, A9b, S9b, A84b, S84b, A86b, S86b, A88b, S88b, A89b, S89b, R10b, R16b, R27b, R83b, R87b, R71b, k.1]
theorem mn_kind {k : Nat} (hk : k < 7) : zkind (enc z M) (z + (72 + k)) = some ([7, 4, 3, 1, 0, 2, 9].getD k 0) := by
  rcases (show k = 0 ∨ k = 1 ∨ k = 2 ∨ k = 3 ∨ k = 4 ∨ k = 5 ∨ k = 6 by omega) with rfl | rfl | rfl | rfl | rfl | rfl | rfl <;> exact e_kind rfl
theorem c_grip (h : KR M R T hc) {p v d f : Nat} (hp : p < 6) (hv : v < 10) (hd : d < 100000) (hf : f < 8) : fX11_weighedGrip N (enc z M) z (nI p) (nI v) (nI d) (nI f) = some (grV (M.1 88 f) (R (7 * p)) v f d (R (7 * p + 3 + d % 4)), enc z M) := by
  have e1 := c_manners (z := z) N h hp
  obtain ⟨h1, h2, h3, h4, h5, h6, h7, h8, h9, h10⟩ := h
  have k := h7 p hp
  have r := h8 p hp (d % 4) (by omega)
  have e2 := mn_kind (z := z) (M := M) (k := R (7 * p)) (by omega)
  rw [fX11_weighedGrip]
  simp (disch := omega) only [lit, ↓x_rem]
  have e3 : zcall ((zkind (enc z M) (z + (72 + R (7 * p)))).bind fun k_11 => if k_11 = 0 then fX0_firmness N (enc z M) (z + (72 + R (7 * p))) (M.1 88 f) (nI f) (nI d) (nI v) (nI (R (7 * p + 3 + d % 4))) else if k_11 = 1 then fX1_firmness N (enc z M) (z + (72 + R (7 * p))) (M.1 88 f) (nI f) (nI d) (nI v) (nI (R (7 * p + 3 + d % 4))) else if k_11 = 2 then fX2_firmness N (enc z M) (z + (72 + R (7 * p))) (M.1 88 f) (nI f) (nI d) (nI v) (nI (R (7 * p + 3 + d % 4))) else if k_11 = 3 then fX3_firmness N (enc z M) (z + (72 + R (7 * p))) (M.1 88 f) (nI f) (nI d) (nI v) (nI (R (7 * p + 3 + d % 4))) else if k_11 = 4 then fX4_firmness N (enc z M) (z + (72 + R (7 * p))) (M.1 88 f) (nI f) (nI d) (nI v) (nI (R (7 * p + 3 + d % 4))) else if k_11 = 7 then fX7_firmness N (enc z M) (z + (72 + R (7 * p))) (M.1 88 f) (nI f) (nI d) (nI v) (nI (R (7 * p + 3 + d % 4))) else if k_11 = 9 then fX9_firmness N (enc z M) (z + (72 + R (7 * p))) (M.1 88 f) (nI f) (nI d) (nI v) (nI (R (7 * p + 3 + d % 4))) else none) (fun (v_10 : Int32) (h_9 : AH) => some (v_10, h_9)) = some (grV (M.1 88 f) (R (7 * p)) v f d (R (7 * p + 3 + d % 4)), enc z M) := by
    have hk6 := k.2
    generalize R (7 * p) = kd at e2 hk6
    generalize R (7 * p + 3 + d % 4) = mr
    generalize M.1 88 f = s
    rw [bnd e2]
    have hm : d % 2 = 0 ∨ d % 2 = 1 := by omega
    rcases (show kd = 0 ∨ kd = 1 ∨ kd = 2 ∨ kd = 3 ∨ kd = 4 ∨ kd = 5 ∨ kd = 6 by omega) with rfl | rfl | rfl | rfl | rfl | rfl | rfl
    · rfl
    · show zcall (fX4_firmness N _ _ _ _ _ _ _) _ = _
      have eg : grV s 1 v f d mr = if v ≤ f then s + nI 0 else s + nI 2 := rfl
      rw [eg, fX4_firmness]
      simp only [lit]
      have e2 : zkind (enc z M) (z + (72 + 1)) = some 4 := e2
      by_cases q : v ≤ f
      · rw [if_pos q]
        simp (disch := omega) only [↓znm_, ↓reduceIte, rn0, rn1, rbI, nle_t, nle_f, nlt_t, nlt_f, neq_t, neq_f, x_add, x_mul, x_sub, x_div, ↓x_rem, x_remN, setI_eq, setI_ne, setI_nk, setI_2, bn0, bn1, reduceCtorEq, ↓bnd e2, fX7_firmness, zcall_some]
      · rw [if_neg q]
        simp (disch := omega) only [↓znm_, ↓reduceIte, rn0, rn1, rbI, nle_t, nle_f, nlt_t, nlt_f, neq_t, neq_f, x_add, x_mul, x_sub, x_div, ↓x_rem, x_remN, setI_eq, setI_ne, setI_nk, setI_2, bn0, bn1, reduceCtorEq, ↓bnd e2, fX7_firmness, zcall_some]
    · show zcall (fX3_firmness N _ _ _ _ _ _ _) _ = _
      have eg : grV s 2 v f d mr = if d % 2 = 1 then nI 0 else s := rfl
      rw [eg, fX3_firmness]
      simp only [lit]
      have e2 : zkind (enc z M) (z + (72 + 2)) = some 3 := e2
      rcases hm with q | q
      · rw [if_neg (by omega)]
        simp (disch := omega) only [↓znm_, ↓reduceIte, rn0, rn1, rbI, nle_t, nle_f, nlt_t, nlt_f, neq_t, neq_f, x_add, x_mul, x_sub, x_div, ↓x_rem, x_remN, setI_eq, setI_ne, setI_nk, setI_2, bn0, bn1, reduceCtorEq, ↓bnd e2, fX7_firmness, zcall_some, q]
      · rw [if_pos q]
        simp (disch := omega) only [↓znm_, ↓reduceIte, rn0, rn1, rbI, nle_t, nle_f, nlt_t, nlt_f, neq_t, neq_f, x_add, x_mul, x_sub, x_div, ↓x_rem, x_remN, setI_eq, setI_ne, setI_nk, setI_2, bn0, bn1, reduceCtorEq, ↓bnd e2, fX7_firmness, zcall_some, q]
    · show zcall (fX1_firmness N _ _ _ _ _ _ _) _ = _
      have e2 : zkind (enc z M) (z + (72 + 3)) = some 1 := e2
      rw [fX1_firmness]
      simp only [lit]
      simp (disch := omega) only [↓znm_, ↓reduceIte, rn0, rn1, rbI, nle_t, nle_f, nlt_t, nlt_f, neq_t, neq_f, x_add, x_mul, x_sub, x_div, ↓x_rem, x_remN, setI_eq, setI_ne, setI_nk, setI_2, bn0, bn1, reduceCtorEq, ↓bnd e2, fX7_firmness, zcall_some]
      rfl
    · show zcall (fX0_firmness N _ _ _ _ _ _ _) _ = _
      have eg : grV s 4 v f d mr = if f = v % 8 then nI 0 else (if v ≤ f then s + nI 0 else s + nI 2) := rfl
      have e2 : zkind (enc z M) (z + (72 + 4)) = some 0 := e2
      rw [eg, fX0_firmness]
      simp only [lit]
      by_cases q : f = v % 8
      · rw [if_pos q]
        simp (disch := omega) only [↓znm_, ↓reduceIte, rn0, rn1, rbI, nle_t, nle_f, nlt_t, nlt_f, neq_t, neq_f, x_add, x_mul, x_sub, x_div, ↓x_rem, x_remN, setI_eq, setI_ne, setI_nk, setI_2, bn0, bn1, reduceCtorEq, zcall_some, q]
      · rw [if_neg q]
        by_cases q2 : v ≤ f
        · rw [if_pos q2]
          simp (disch := omega) only [↓znm_, ↓reduceIte, rn0, rn1, rbI, nle_t, nle_f, nlt_t, nlt_f, neq_t, neq_f, x_add, x_mul, x_sub, x_div, ↓x_rem, x_remN, setI_eq, setI_ne, setI_nk, setI_2, bn0, bn1, reduceCtorEq, ↓bnd e2, fX4_firmness, fX7_firmness, zcall_some, lit]
        · rw [if_neg q2]
          simp (disch := omega) only [↓znm_, ↓reduceIte, rn0, rn1, rbI, nle_t, nle_f, nlt_t, nlt_f, neq_t, neq_f, x_add, x_mul, x_sub, x_div, ↓x_rem, x_remN, setI_eq, setI_ne, setI_nk, setI_2, bn0, bn1, reduceCtorEq, ↓bnd e2, fX4_firmness, fX7_firmness, zcall_some, lit]
    · show zcall (fX2_firmness N _ _ _ _ _ _ _) _ = _
      have eg : grV s 5 v f d mr = (if d % 2 = 1 then nI 0 else s) + nI (v % 3) := rfl
      have e2 : zkind (enc z M) (z + (72 + 5)) = some 2 := e2
      rw [eg, fX2_firmness]
      simp only [lit]
      rcases hm with q | q
      · rw [if_neg (by omega)]
        simp (disch := omega) only [↓znm_, ↓reduceIte, rn0, rn1, rbI, nle_t, nle_f, nlt_t, nlt_f, neq_t, neq_f, x_add, x_mul, x_sub, x_div, ↓x_rem, x_remN, setI_eq, setI_ne, setI_nk, setI_2, bn0, bn1, reduceCtorEq, ↓bnd e2, fX3_firmness, fX7_firmness, zcall_some, lit, q]
      · rw [if_pos q]
        simp (disch := omega) only [↓znm_, ↓reduceIte, rn0, rn1, rbI, nle_t, nle_f, nlt_t, nlt_f, neq_t, neq_f, x_add, x_mul, x_sub, x_div, ↓x_rem, x_remN, setI_eq, setI_ne, setI_nk, setI_2, bn0, bn1, reduceCtorEq, ↓bnd e2, fX3_firmness, fX7_firmness, zcall_some, lit, q]
    · show zcall (fX9_firmness N _ _ _ _ _ _ _) _ = _
      have eg : grV s 6 v f d mr = s / nI 2 + nI mr := rfl
      have e2 : zkind (enc z M) (z + (72 + 6)) = some 9 := e2
      rw [eg, fX9_firmness]
      simp (disch := omega) only [↓znm_, ↓reduceIte, rn0, rn1, rbI, nle_t, nle_f, nlt_t, nlt_f, neq_t, neq_f, x_add, x_mul, x_sub, x_div, ↓x_rem, x_remN, setI_eq, setI_ne, setI_nk, setI_2, bn0, bn1, reduceCtorEq, ↓bnd e2, fX1_firmness, fX7_firmness, zcall_some, lit]
  simp (disch := omega) only [↓znm_, ↓reduceIte, rn0, rn1, rbI, nle_t, nle_f, nlt_t, nlt_f, neq_t, neq_f, x_add, x_mul, x_sub, x_div, ↓x_rem, x_remN, setI_eq, setI_ne, setI_nk, setI_2, bn0, bn1, reduceCtorEq, ↓O0b, ↓G0_0b, ↓G0_1b, ↓G0_2b, ↓P0_2b, ↓G0_3b, ↓G0_4b, ↓G0_5b, ↓G0_6b, ↓P0_6b, ↓G0_7b, ↓G0_8b, ↓P0_8b, ↓G0_9b, ↓G0_10b, ↓G0_11b, ↓G0_12b, ↓O1b, ↓G1_0b, ↓P1_0b, ↓G1_1b, ↓G1_2b, ↓G1_3b, ↓G1_4b, ↓G1_5b, ↓P1_5b, ↓G1_6b, ↓G1_7b, ↓G1_8b, ↓G1_9b, ↓P1_9b, ↓G1_10b, ↓G1_11b, ↓P1_11b, ↓G1_12b, ↓P1_12b, ↓G1_13b, ↓P1_13b, ↓G1_14b, ↓P1_14b, ↓G1_15b, ↓G1_16b, ↓P1_16b, ↓G1_17b, ↓G1_18b, ↓P1_18b, ↓G1_19b, ↓O85b, ↓G85_0b, ↓P85_0b, ↓G85_1b, ↓P85_1b, ↓G85_2b, ↓P85_2b, ↓G85_3b, ↓A2b, ↓S2b, ↓N2b, ↓A3b, ↓S3b, ↓N3b, ↓A4b, ↓S4b, ↓N4b, ↓A5b, ↓A5m, ↓A5p, ↓A5mp, ↓A5pm, ↓A5pmp, ↓A5mpp, ↓A5pp, ↓S5b, ↓S5m, ↓S5p, ↓S5mp, ↓S5pm, ↓S5pmp, ↓S5mpp, ↓S5pp, ↓N5b, ↓A6b, ↓S6b, ↓N6b, ↓A7b, ↓S7b, ↓N7b, ↓A8b, ↓S8b, ↓N8b, ↓A9b, ↓S9b, ↓N9b, ↓A84b, ↓S84b, ↓N84b, ↓A86b, ↓S86b, ↓N86b, ↓A88b, ↓S88b, ↓N88b, ↓A89b, ↓S89b, ↓N89b, ↓R10b, ↓R16b, ↓R27b, ↓R83b, ↓R87b, ↓R71b, ↓P0_2n, A2b, S2b, A3b, S3b, A4b, S4b, A5b, S5b, A6b, S6b, A7b, S7b, A8b, S8b, A9b, S9b, A84b, S84b, A86b, S86b, A88b, S88b, A89b, S89b, R10b, R16b, R27b, R83b, R87b, R71b, r, ↓zc e1]
  exact e3
end
