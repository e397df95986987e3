theorem IV_T {M M' : PM} {R : Nat → Nat} {T : TT} {hc : Nat} (h : IV M R T hc) (h2 : M'.2.1 = M.2.1) (hF : ∀ c j, ¬ (c = 84 ∨ c = 130 ∨ c = 133 ∨ (c = 0 ∧ j = 8) ∨ (c = 126 ∧ (j = 5 ∨ (10 ≤ j ∧ j ≤ 15))) ∨ (hc < 6 ∧ (c = 90 + 4 * hc ∨ c = 90 + 4 * hc + 1))) → M'.1 c j = M.1 c j) (hX : TX M') : IV M' R T hc := by
  obtain ⟨a1, a2, a3, ⟨b1, b2, b3, b4, b5⟩, a5, a6, a7, a8⟩ := h
  have hc6 := b5.2.1
  refine ⟨CR_F (fun c j q1 q2 => hF c j (by omega)) a1, fun j hj => by rw [hF 127 j (by omega)]; exact a2 j hj, a3, ⟨by rw [hF 0 6 (by omega)]; exact b1, by rw [hF 126 8 (by omega)]; exact b2, HK_F (fun j => hF _ _ (by omega)) (hF _ _ (by omega)) (hF _ _ (by omega)) b3, fun t ht => HK_F (fun j => hF _ _ (by omega)) (hF _ _ (by omega)) (hF _ _ (by omega)) (b4 t ht), HT_e (fun c j q => hF c j (by omega)) b5⟩, IM_F (hF 0 2 (by omega)) (hF 126 3 (by omega)) (fun c j q1 q2 => hF c j (by omega)) (fun j => hF 129 j (by omega)) a5, hX, TN_F (hF 85 2 (by omega)) (hF 126 23 (by omega)) (fun c j q => hF c j (by omega)) a7, TP_F (fun c j q => hF c j (by omega)) h2 a8⟩
def insT (T : TT) (k : Nat) (x : Nat × (Nat → Nat)) : TT := fun t => if t = k then x else T t
theorem insT_eq {T : TT} {k : Nat} {x : Nat × (Nat → Nat)} : insT T k x k = x := by unfold insT; rw [if_pos rfl]
theorem insT_ne {T : TT} {k t : Nat} {x : Nat × (Nat → Nat)} (h : ¬ t = k) : insT T k x t = T t := by unfold insT; rw [if_neg h]
theorem nar_b : ∀ j, j < 128 → vp_nar .byte ((nI j).toInt8.toInt32) = nI j := by decide +kernel
theorem CR_80 {M M' : PM} {R : Nat → Nat} {x : Nat} (hC : CR M 1 R) (g : ∀ c j, 1 ≤ c → c < 36 → ¬ (c = 1 ∧ j = 13) → M'.1 c j = M.1 c j) (h13 : M'.1 1 13 = hdI x) : CR M' 1 (updN R 80 x) := by
  have o : ∀ j, j ≠ 80 → updN R 80 x j = R j := fun j a => updN_ne a
  obtain ⟨c1, c2, c3, c4, c5, c6, c7, c8, c9, c10, c11, c12, c13, c14, c15, c16⟩ := hC
  refine ⟨?_, fun p hp => ⟨?_, ?_, ?_⟩, fun p hp q hq => ?_, ?_, fun i hi => ⟨?_, ?_, ?_⟩, ?_, fun f hf => ?_, ?_, ?_, ?_, ?_, fun r hr => fun c hc => ?_, ?_, fun r hr => fun c hc => ?_, ?_, fun r hr => fun c hc => ?_⟩
  · rw [g 1 0 (by omega) (by omega) (by omega), o 76 (by omega)]; exact c1
  · rw [g (1 + 1) p (by omega) (by omega) (by omega), o (7 * p) (by omega)]; exact (c2 p hp).1
  · rw [g (1 + 2) p (by omega) (by omega) (by omega), o (7 * p + 1) (by omega)]; exact (c2 p hp).2.1
  · rw [g (1 + 3) p (by omega) (by omega) (by omega), o (7 * p + 2) (by omega)]; exact (c2 p hp).2.2
  · rw [g (1 + 4) _ (by omega) (by omega) (by omega), o (7 * p + 3 + q) (by omega)]; exact c3 p hp q hq
  · rw [g 1 5 (by omega) (by omega) (by omega), o 77 (by omega)]; exact c4
  · rw [g (1 + 5) i (by omega) (by omega) (by omega), o (42 + 3 * i) (by omega)]; exact (c5 i hi).1
  · rw [g (1 + 6) i (by omega) (by omega) (by omega), o (42 + 3 * i + 1) (by omega)]; exact (c5 i hi).2.1
  · rw [g (1 + 7) i (by omega) (by omega) (by omega), o (42 + 3 * i + 2) (by omega)]; exact (c5 i hi).2.2
  · rw [g 1 9 (by omega) (by omega) (by omega), o 78 (by omega)]; exact c6
  · rw [g (1 + 8) f (by omega) (by omega) (by omega), o (66 + 2 * f) (by omega)]; exact c7 f hf
  · rw [g 1 11 (by omega) (by omega) (by omega), outsN_congr (R := R) (fun f hf => o (66 + 2 * f + 1) (by omega))]; exact c8
  · rw [g 1 12 (by omega) (by omega) (by omega), o 79 (by omega)]; exact c9
  · rw [updN_eq]; exact h13
  · rw [g 1 14 (by omega) (by omega) (by omega), o 81 (by omega)]; exact c11
  · rw [g (1 + 10 + r) c (by omega) (by omega) (by omega), o (82 + 4 * r + c) (by omega)]; exact c12 r hr c hc
  · rw [g 1 16 (by omega) (by omega) (by omega), o 102 (by omega)]; exact c13
  · rw [g (1 + 16 + r) c (by omega) (by omega) (by omega), o (103 + 2 * r + c) (by omega)]; exact c14 r hr c hc
  · rw [g 1 18 (by omega) (by omega) (by omega), o 123 (by omega)]; exact c15
  · rw [g (1 + 27 + r) c (by omega) (by omega) (by omega), o (124 + 2 * r + c) (by omega)]; exact c16 r hr c hc
theorem WF_80 {R : Nat → Nat} {hc x : Nat} (hW : WF R hc) (hx : x ≤ hc + 1) : WF (updN R 80 x) (hc + 1) := by
  obtain ⟨w1, w2, w3, w4, w5, w6, w7, w8, w9, w10, w11, w12, w13, w14⟩ := hW
  have o : ∀ j, j ≠ 80 → updN R 80 x j = R j := fun j a => updN_ne a
  refine ⟨?_, ?_, ?_, ?_, ?_, ?_, ?_, ?_, fun p hp => ?_, fun i hi => ?_, fun f hf => ?_, fun r hr => ?_, fun r hr => ?_, fun r hr => ?_⟩
  · rw [o 76 (by omega)]; exact w1
  · rw [o 77 (by omega)]; exact w2
  · rw [o 78 (by omega)]; exact w3
  · rw [o 79 (by omega)]; exact w4
  · rw [updN_eq]; exact hx
  · rw [o 81 (by omega)]; exact w6
  · rw [o 102 (by omega)]; exact w7
  · rw [o 123 (by omega)]; exact w8
  · refine ⟨by rw [o (7 * p) (by omega)]; exact (w9 p hp).1, by rw [o (7 * p + 1) (by omega)]; exact (w9 p hp).2.1, by rw [o (7 * p + 2) (by omega)]; exact (w9 p hp).2.2.1, fun q hq => by rw [o (7 * p + 3 + q) (by omega)]; exact (w9 p hp).2.2.2 q hq⟩
  · rw [o 77 (by omega)] at hi
    rw [o (42 + 3 * i) (by omega), o (42 + 3 * i + 1) (by omega), o (42 + 3 * i + 2) (by omega), o 76 (by omega)]
    exact w10 i hi
  · rw [o (66 + 2 * f) (by omega), o (66 + 2 * f + 1) (by omega), o 78 (by omega)]
    exact w11 f hf
  · rw [o 81 (by omega)] at hr
    rw [o (82 + 4 * r) (by omega), o (82 + 4 * r + 1) (by omega), o (82 + 4 * r + 2) (by omega), o (82 + 4 * r + 3) (by omega), o 76 (by omega)]
    exact w12 r hr
  · rw [o 102 (by omega)] at hr
    rw [o (103 + 2 * r) (by omega), o (103 + 2 * r + 1) (by omega), o 76 (by omega)]
    exact w13 r hr
  · rw [o 123 (by omega)] at hr
    rw [o (124 + 2 * r) (by omega), o (124 + 2 * r + 1) (by omega), o 76 (by omega)]
    exact w14 r hr
theorem WF_mono {R : Nat → Nat} {hc : Nat} (hW : WF R hc) : WF R (hc + 1) := by
  obtain ⟨w1, w2, w3, w4, w5, w6, w7, w8, w9, w10, w11, w12, w13, w14⟩ := hW
  exact ⟨w1, w2, w3, w4, by omega, w6, w7, w8, w9, w10, w11, w12, w13, w14⟩
theorem IM_mono {M : PM} {hc : Nat} (h : IM M hc) : IM M (hc + 1) := by
  obtain ⟨img, a1, a2, a3⟩ := h
  refine ⟨img, a1, a2, fun q => ?_⟩
  obtain ⟨Rt, b1, b2, b3⟩ := a3 q
  exact ⟨Rt, b1, b2, WF_mono b3⟩
section
variable {z : Nat} (N : Nat) {M : PM} {R : Nat → Nat} {T : TT} {hc : Nat}
set_option maxHeartbeats 4000000 in
theorem s_feed (h : IV M R T hc) (x1 : Int32) : ST z (fun h => fX11_feed N h z x1) (fun h => fX12_feed N h (z + 126) x1) M := by
  have h0 := h
  obtain ⟨tl, t1, t2, t3, t4⟩ := h.2.2.2.2.2.1
  have e5 := m_in N (h := enc z M) (x := x1) (n := 127) (by omega)
  rcases inR_c x1 (n := 128) (by omega) with q1 | ⟨j, hj, rfl, q1⟩
  · rw [q1] at e5
    refine ST_same h0 (r := -nI 2) ?_ ?_
    · show fX11_feed N (enc z M) z x1 = _
      rw [fX11_feed]; simp only [lit]
      rcases inR_f q1 with w | ⟨w1', w2'⟩
      · simp (disch := omega) only [↓znm_, ↓reduceIte, rn0, rn1, rbI, nle_t, nle_f, nlt_t, nlt_f, neq_t, neq_f, x_add, x_mul, x_sub, x_div, ↓x_rem, x_remN, setI_eq, setI_ne, setI_nk, setI_2, bn0, bn1, reduceCtorEq, ↓O0b, ↓G0_0b, ↓G0_1b, ↓G0_2b, ↓P0_2b, ↓G0_3b, ↓G0_4b, ↓G0_5b, ↓G0_6b, ↓P0_6b, ↓G0_7b, ↓G0_8b, ↓P0_8b, ↓G0_9b, ↓G0_10b, ↓G0_11b, ↓G0_12b, ↓O1b, ↓G1_0b, ↓P1_0b, ↓G1_1b, ↓G1_2b, ↓G1_3b, ↓G1_4b, ↓G1_5b, ↓P1_5b, ↓G1_6b, ↓G1_7b, ↓G1_8b, ↓G1_9b, ↓P1_9b, ↓G1_10b, ↓G1_11b, ↓P1_11b, ↓G1_12b, ↓P1_12b, ↓G1_13b, ↓P1_13b, ↓G1_14b, ↓P1_14b, ↓G1_15b, ↓G1_16b, ↓P1_16b, ↓G1_17b, ↓G1_18b, ↓P1_18b, ↓G1_19b, ↓O85b, ↓G85_0b, ↓P85_0b, ↓G85_1b, ↓P85_1b, ↓G85_2b, ↓P85_2b, ↓G85_3b, ↓A2b, ↓S2b, ↓N2b, ↓A3b, ↓S3b, ↓N3b, ↓A4b, ↓S4b, ↓N4b, ↓A5b, ↓A5m, ↓A5p, ↓A5mp, ↓A5pm, ↓A5pmp, ↓A5mpp, ↓A5pp, ↓S5b, ↓S5m, ↓S5p, ↓S5mp, ↓S5pm, ↓S5pmp, ↓S5mpp, ↓S5pp, ↓N5b, ↓A6b, ↓S6b, ↓N6b, ↓A7b, ↓S7b, ↓N7b, ↓A8b, ↓S8b, ↓N8b, ↓A9b, ↓S9b, ↓N9b, ↓A84b, ↓S84b, ↓N84b, ↓A86b, ↓S86b, ↓N86b, ↓A88b, ↓S88b, ↓N88b, ↓A89b, ↓S89b, ↓N89b, ↓R10b, ↓R16b, ↓R27b, ↓R83b, ↓R87b, ↓R71b, ↓P0_2n, A2b, S2b, A3b, S3b, A4b, S4b, A5b, S5b, A6b, S6b, A7b, S7b, A8b, S8b, A9b, S9b, A84b, S84b, A86b, S86b, A88b, S88b, A89b, S89b, R10b, R16b, R27b, R83b, R87b, R71b, w]
      · simp (disch := omega) only [↓znm_, ↓reduceIte, rn0, rn1, rbI, nle_t, nle_f, nlt_t, nlt_f, neq_t, neq_f, x_add, x_mul, x_sub, x_div, ↓x_rem, x_remN, setI_eq, setI_ne, setI_nk, setI_2, bn0, bn1, reduceCtorEq, ↓O0b, ↓G0_0b, ↓G0_1b, ↓G0_2b, ↓P0_2b, ↓G0_3b, ↓G0_4b, ↓G0_5b, ↓G0_6b, ↓P0_6b, ↓G0_7b, ↓G0_8b, ↓P0_8b, ↓G0_9b, ↓G0_10b, ↓G0_11b, ↓G0_12b, ↓O1b, ↓G1_0b, ↓P1_0b, ↓G1_1b, ↓G1_2b, ↓G1_3b, ↓G1_4b, ↓G1_5b, ↓P1_5b, ↓G1_6b, ↓G1_7b, ↓G1_8b, ↓G1_9b, ↓P1_9b, ↓G1_10b, ↓G1_11b, ↓P1_11b, ↓G1_12b, ↓P1_12b, ↓G1_13b, ↓P1_13b, ↓G1_14b, ↓P1_14b, ↓G1_15b, ↓G1_16b, ↓P1_16b, ↓G1_17b, ↓G1_18b, ↓P1_18b, ↓G1_19b, ↓O85b, ↓G85_0b, ↓P85_0b, ↓G85_1b, ↓P85_1b, ↓G85_2b, ↓P85_2b, ↓G85_3b, ↓A2b, ↓S2b, ↓N2b, ↓A3b, ↓S3b, ↓N3b, ↓A4b, ↓S4b, ↓N4b, ↓A5b, ↓A5m, ↓A5p, ↓A5mp, ↓A5pm, ↓A5pmp, ↓A5mpp, ↓A5pp, ↓S5b, ↓S5m, ↓S5p, ↓S5mp, ↓S5pm, ↓S5pmp, ↓S5mpp, ↓S5pp, ↓N5b, ↓A6b, ↓S6b, ↓N6b, ↓A7b, ↓S7b, ↓N7b, ↓A8b, ↓S8b, ↓N8b, ↓A9b, ↓S9b, ↓N9b, ↓A84b, ↓S84b, ↓N84b, ↓A86b, ↓S86b, ↓N86b, ↓A88b, ↓S88b, ↓N88b, ↓A89b, ↓S89b, ↓N89b, ↓R10b, ↓R16b, ↓R27b, ↓R83b, ↓R87b, ↓R71b, ↓P0_2n, A2b, S2b, A3b, S3b, A4b, S4b, A5b, S5b, A6b, S6b, A7b, S7b, A8b, S8b, A9b, S9b, A84b, S84b, A86b, S86b, A88b, S88b, A89b, S89b, R10b, R16b, R27b, R83b, R87b, R71b, w1', (ge_f w2' (by omega)).2.1]
    · show fX12_feed N (enc z M) (z + 126) x1 = _
      rw [fX12_feed]; simp only [lit]; simp (disch := omega) only [↓znm_, ↓reduceIte, rn0, rn1, rbI, nle_t, nle_f, nlt_t, nlt_f, neq_t, neq_f, x_add, x_mul, x_sub, x_div, ↓x_rem, x_remN, setI_eq, setI_ne, setI_nk, setI_2, bn0, bn1, reduceCtorEq, ↓O126b, ↓G126_0b, ↓G126_1b, ↓G126_2b, ↓G126_3b, ↓P126_3b, ↓G126_4b, ↓G126_5b, ↓P126_5b, ↓G126_6b, ↓G126_7b, ↓G126_8b, ↓P126_8b, ↓G126_9b, ↓G126_10b, ↓P126_10b, ↓G126_11b, ↓P126_11b, ↓G126_12b, ↓P126_12b, ↓G126_13b, ↓P126_13b, ↓G126_14b, ↓P126_14b, ↓G126_15b, ↓P126_15b, ↓G126_16b, ↓G126_17b, ↓G126_18b, ↓G126_19b, ↓G126_20b, ↓G126_21b, ↓G126_22b, ↓G126_23b, ↓P126_23b, ↓G126_24b, ↓G126_25b, ↓G126_26b, ↓G126_27b, ↓A127b, ↓A127m, ↓A127p, ↓A127mp, ↓A127pm, ↓A127pmp, ↓A127mpp, ↓A127pp, ↓S127b, ↓S127m, ↓S127p, ↓S127mp, ↓S127pm, ↓S127pmp, ↓S127mpp, ↓S127pp, ↓N127b, ↓A128b, ↓S128b, ↓N128b, ↓A129b, ↓S129b, ↓N129b, ↓A130b, ↓S130b, ↓N130b, ↓A131b, ↓A131m, ↓A131p, ↓A131mp, ↓A131pm, ↓A131pmp, ↓A131mpp, ↓A131pp, ↓S131b, ↓S131m, ↓S131p, ↓S131mp, ↓S131pm, ↓S131pmp, ↓S131mpp, ↓S131pp, ↓N131b, ↓A132b, ↓S132b, ↓N132b, ↓A133b, ↓S133b, ↓N133b, ↓A134b, ↓S134b, ↓N134b, ↓A135b, ↓S135b, ↓N135b, ↓A136b, ↓S136b, ↓N136b, ↓A137b, ↓A137m, ↓A137p, ↓A137mp, ↓A137pm, ↓A137pmp, ↓A137mpp, ↓A137pp, ↓S137b, ↓S137m, ↓S137p, ↓S137mp, ↓S137pm, ↓S137pmp, ↓S137mpp, ↓S137pp, ↓N137b, ↓A138b, ↓S138b, ↓N138b, ↓A139b, ↓A139m, ↓A139p, ↓A139mp, ↓A139pm, ↓A139pmp, ↓A139mpp, ↓A139pp, ↓S139b, ↓S139m, ↓S139p, ↓S139mp, ↓S139pm, ↓S139pmp, ↓S139mpp, ↓S139pp, ↓N139b, ↓A140b, ↓S140b, ↓N140b, ↓A141b, ↓S141b, ↓N141b, ↓A142b, ↓S142b, ↓N142b, ↓A143b, ↓A143m, ↓A143p, ↓A143mp, ↓A143pm, ↓A143pmp, ↓A143mpp, ↓A143pp, ↓S143b, ↓S143m, ↓S143p, ↓S143mp, ↓S143pm, ↓S143pmp, ↓S143mpp, ↓S143pp, ↓A144b, ↓S144b, A127b, S127b, A128b, S128b, A129b, S129b, A130b, S130b, A131b, S131b, A132b, S132b, A133b, S133b, A134b, S134b, A135b, S135b, A136b, S136b, A137b, S137b, A138b, S138b, A139b, S139b, A140b, S140b, A141b, S141b, A142b, S142b, A143b, S143b, A144b, S144b, ↓P126_3n, ↓P126_12n, ↓P126_12o, ↓zc e5]
  · rw [q1] at e5
    by_cases hl : tl = 100
    · rw [hl] at t1 t2
      refine ST_same h0 (r := -nI 4) ?_ ?_
      · show fX11_feed N (enc z M) z (nI j) = _
        rw [fX11_feed]; simp only [lit]; simp (disch := omega) only [↓znm_, ↓reduceIte, rn0, rn1, rbI, nle_t, nle_f, nlt_t, nlt_f, neq_t, neq_f, x_add, x_mul, x_sub, x_div, ↓x_rem, x_remN, setI_eq, setI_ne, setI_nk, setI_2, bn0, bn1, reduceCtorEq, ↓O0b, ↓G0_0b, ↓G0_1b, ↓G0_2b, ↓P0_2b, ↓G0_3b, ↓G0_4b, ↓G0_5b, ↓G0_6b, ↓P0_6b, ↓G0_7b, ↓G0_8b, ↓P0_8b, ↓G0_9b, ↓G0_10b, ↓G0_11b, ↓G0_12b, ↓O1b, ↓G1_0b, ↓P1_0b, ↓G1_1b, ↓G1_2b, ↓G1_3b, ↓G1_4b, ↓G1_5b, ↓P1_5b, ↓G1_6b, ↓G1_7b, ↓G1_8b, ↓G1_9b, ↓P1_9b, ↓G1_10b, ↓G1_11b, ↓P1_11b, ↓G1_12b, ↓P1_12b, ↓G1_13b, ↓P1_13b, ↓G1_14b, ↓P1_14b, ↓G1_15b, ↓G1_16b, ↓P1_16b, ↓G1_17b, ↓G1_18b, ↓P1_18b, ↓G1_19b, ↓O85b, ↓G85_0b, ↓P85_0b, ↓G85_1b, ↓P85_1b, ↓G85_2b, ↓P85_2b, ↓G85_3b, ↓A2b, ↓S2b, ↓N2b, ↓A3b, ↓S3b, ↓N3b, ↓A4b, ↓S4b, ↓N4b, ↓A5b, ↓A5m, ↓A5p, ↓A5mp, ↓A5pm, ↓A5pmp, ↓A5mpp, ↓A5pp, ↓S5b, ↓S5m, ↓S5p, ↓S5mp, ↓S5pm, ↓S5pmp, ↓S5mpp, ↓S5pp, ↓N5b, ↓A6b, ↓S6b, ↓N6b, ↓A7b, ↓S7b, ↓N7b, ↓A8b, ↓S8b, ↓N8b, ↓A9b, ↓S9b, ↓N9b, ↓A84b, ↓S84b, ↓N84b, ↓A86b, ↓S86b, ↓N86b, ↓A88b, ↓S88b, ↓N88b, ↓A89b, ↓S89b, ↓N89b, ↓R10b, ↓R16b, ↓R27b, ↓R83b, ↓R87b, ↓R71b, ↓P0_2n, A2b, S2b, A3b, S3b, A4b, S4b, A5b, S5b, A6b, S6b, A7b, S7b, A8b, S8b, A9b, S9b, A84b, S84b, A86b, S86b, A88b, S88b, A89b, S89b, R10b, R16b, R27b, R83b, R87b, R71b, t1]
      · show fX12_feed N (enc z M) (z + 126) (nI j) = _
        rw [fX12_feed]; simp only [lit]; simp (disch := omega) only [↓znm_, ↓reduceIte, rn0, rn1, rbI, nle_t, nle_f, nlt_t, nlt_f, neq_t, neq_f, x_add, x_mul, x_sub, x_div, ↓x_rem, x_remN, setI_eq, setI_ne, setI_nk, setI_2, bn0, bn1, reduceCtorEq, ↓O126b, ↓G126_0b, ↓G126_1b, ↓G126_2b, ↓G126_3b, ↓P126_3b, ↓G126_4b, ↓G126_5b, ↓P126_5b, ↓G126_6b, ↓G126_7b, ↓G126_8b, ↓P126_8b, ↓G126_9b, ↓G126_10b, ↓P126_10b, ↓G126_11b, ↓P126_11b, ↓G126_12b, ↓P126_12b, ↓G126_13b, ↓P126_13b, ↓G126_14b, ↓P126_14b, ↓G126_15b, ↓P126_15b, ↓G126_16b, ↓G126_17b, ↓G126_18b, ↓G126_19b, ↓G126_20b, ↓G126_21b, ↓G126_22b, ↓G126_23b, ↓P126_23b, ↓G126_24b, ↓G126_25b, ↓G126_26b, ↓G126_27b, ↓A127b, ↓A127m, ↓A127p, ↓A127mp, ↓A127pm, ↓A127pmp, ↓A127mpp, ↓A127pp, ↓S127b, ↓S127m, ↓S127p, ↓S127mp, ↓S127pm, ↓S127pmp, ↓S127mpp, ↓S127pp, ↓N127b, ↓A128b, ↓S128b, ↓N128b, ↓A129b, ↓S129b, ↓N129b, ↓A130b, ↓S130b, ↓N130b, ↓A131b, ↓A131m, ↓A131p, ↓A131mp, ↓A131pm, ↓A131pmp, ↓A131mpp, ↓A131pp, ↓S131b, ↓S131m, ↓S131p, ↓S131mp, ↓S131pm, ↓S131pmp, ↓S131mpp, ↓S131pp, ↓N131b, ↓A132b, ↓S132b, ↓N132b, ↓A133b, ↓S133b, ↓N133b, ↓A134b, ↓S134b, ↓N134b, ↓A135b, ↓S135b, ↓N135b, ↓A136b, ↓S136b, ↓N136b, ↓A137b, ↓A137m, ↓A137p, ↓A137mp, ↓A137pm, ↓A137pmp, ↓A137mpp, ↓A137pp, ↓S137b, ↓S137m, ↓S137p, ↓S137mp, ↓S137pm, ↓S137pmp, ↓S137mpp, ↓S137pp, ↓N137b, ↓A138b, ↓S138b, ↓N138b, ↓A139b, ↓A139m, ↓A139p, ↓A139mp, ↓A139pm, ↓A139pmp, ↓A139mpp, ↓A139pp, ↓S139b, ↓S139m, ↓S139p, ↓S139mp, ↓S139pm, ↓S139pmp, ↓S139mpp, ↓S139pp, ↓N139b, ↓A140b, ↓S140b, ↓N140b, ↓A141b, ↓S141b, ↓N141b, ↓A142b, ↓S142b, ↓N142b, ↓A143b, ↓A143m, ↓A143p, ↓A143mp, ↓A143pm, ↓A143pmp, ↓A143mpp, ↓A143pp, ↓S143b, ↓S143m, ↓S143p, ↓S143mp, ↓S143pm, ↓S143pmp, ↓S143mpp, ↓S143pp, ↓A144b, ↓S144b, A127b, S127b, A128b, S128b, A129b, S129b, A130b, S130b, A131b, S131b, A132b, S132b, A133b, S133b, A134b, S134b, A135b, S135b, A136b, S136b, A137b, S137b, A138b, S138b, A139b, S139b, A140b, S140b, A141b, S141b, A142b, S142b, A143b, S143b, A144b, S144b, ↓P126_3n, ↓P126_12n, ↓P126_12o, ↓zc e5, t2]
    · have hn := nar_b j hj
      generalize hM1 : setI (setI M 84 tl (nI j)) 0 8 (nI (tl + 1)) = M1
      have t2' : M1.1 126 5 = nI tl := by rw [← hM1, setI_nk (by omega), setI_nk (by omega)]; exact t2
      have e5 := m_in N (h := enc z M1) (x := nI j) (n := 127) (by omega)
      rw [q1] at e5
      refine ⟨nI (tl + 1), M1, setI (setI M1 130 tl (nI j)) 126 5 (nI (tl + 1)), ?_, ?_, R, T, hc, ?_⟩
      · show fX11_feed N (enc z M) z (nI j) = _
        rw [fX11_feed]; simp only [lit]; simp (disch := omega) only [↓znm_, ↓reduceIte, rn0, rn1, rbI, nle_t, nle_f, nlt_t, nlt_f, neq_t, neq_f, x_add, x_mul, x_sub, x_div, ↓x_rem, x_remN, setI_eq, setI_ne, setI_nk, setI_2, bn0, bn1, reduceCtorEq, ↓O0b, ↓G0_0b, ↓G0_1b, ↓G0_2b, ↓P0_2b, ↓G0_3b, ↓G0_4b, ↓G0_5b, ↓G0_6b, ↓P0_6b, ↓G0_7b, ↓G0_8b, ↓P0_8b, ↓G0_9b, ↓G0_10b, ↓G0_11b, ↓G0_12b, ↓O1b, ↓G1_0b, ↓P1_0b, ↓G1_1b, ↓G1_2b, ↓G1_3b, ↓G1_4b, ↓G1_5b, ↓P1_5b, ↓G1_6b, ↓G1_7b, ↓G1_8b, ↓G1_9b, ↓P1_9b, ↓G1_10b, ↓G1_11b, ↓P1_11b, ↓G1_12b, ↓P1_12b, ↓G1_13b, ↓P1_13b, ↓G1_14b, ↓P1_14b, ↓G1_15b, ↓G1_16b, ↓P1_16b, ↓G1_17b, ↓G1_18b, ↓P1_18b, ↓G1_19b, ↓O85b, ↓G85_0b, ↓P85_0b, ↓G85_1b, ↓P85_1b, ↓G85_2b, ↓P85_2b, ↓G85_3b, ↓A2b, ↓S2b, ↓N2b, ↓A3b, ↓S3b, ↓N3b, ↓A4b, ↓S4b, ↓N4b, ↓A5b, ↓A5m, ↓A5p, ↓A5mp, ↓A5pm, ↓A5pmp, ↓A5mpp, ↓A5pp, ↓S5b, ↓S5m, ↓S5p, ↓S5mp, ↓S5pm, ↓S5pmp, ↓S5mpp, ↓S5pp, ↓N5b, ↓A6b, ↓S6b, ↓N6b, ↓A7b, ↓S7b, ↓N7b, ↓A8b, ↓S8b, ↓N8b, ↓A9b, ↓S9b, ↓N9b, ↓A84b, ↓S84b, ↓N84b, ↓A86b, ↓S86b, ↓N86b, ↓A88b, ↓S88b, ↓N88b, ↓A89b, ↓S89b, ↓N89b, ↓R10b, ↓R16b, ↓R27b, ↓R83b, ↓R87b, ↓R71b, ↓P0_2n, A2b, S2b, A3b, S3b, A4b, S4b, A5b, S5b, A6b, S6b, A7b, S7b, A8b, S8b, A9b, S9b, A84b, S84b, A86b, S86b, A88b, S88b, A89b, S89b, R10b, R16b, R27b, R83b, R87b, R71b, t1, hn, hM1]
        rw [← hM1, setI_eq]
      · show fX12_feed N (enc z M1) (z + 126) (nI j) = _
        rw [fX12_feed]; simp only [lit]; simp (disch := omega) only [↓znm_, ↓reduceIte, rn0, rn1, rbI, nle_t, nle_f, nlt_t, nlt_f, neq_t, neq_f, x_add, x_mul, x_sub, x_div, ↓x_rem, x_remN, setI_eq, setI_ne, setI_nk, setI_2, bn0, bn1, reduceCtorEq, ↓O126b, ↓G126_0b, ↓G126_1b, ↓G126_2b, ↓G126_3b, ↓P126_3b, ↓G126_4b, ↓G126_5b, ↓P126_5b, ↓G126_6b, ↓G126_7b, ↓G126_8b, ↓P126_8b, ↓G126_9b, ↓G126_10b, ↓P126_10b, ↓G126_11b, ↓P126_11b, ↓G126_12b, ↓P126_12b, ↓G126_13b, ↓P126_13b, ↓G126_14b, ↓P126_14b, ↓G126_15b, ↓P126_15b, ↓G126_16b, ↓G126_17b, ↓G126_18b, ↓G126_19b, ↓G126_20b, ↓G126_21b, ↓G126_22b, ↓G126_23b, ↓P126_23b, ↓G126_24b, ↓G126_25b, ↓G126_26b, ↓G126_27b, ↓A127b, ↓A127m, ↓A127p, ↓A127mp, ↓A127pm, ↓A127pmp, ↓A127mpp, ↓A127pp, ↓S127b, ↓S127m, ↓S127p, ↓S127mp, ↓S127pm, ↓S127pmp, ↓S127mpp, ↓S127pp, ↓N127b, ↓A128b, ↓S128b, ↓N128b, ↓A129b, ↓S129b, ↓N129b, ↓A130b, ↓S130b, ↓N130b, ↓A131b, ↓A131m, ↓A131p, ↓A131mp, ↓A131pm, ↓A131pmp, ↓A131mpp, ↓A131pp, ↓S131b, ↓S131m, ↓S131p, ↓S131mp, ↓S131pm, ↓S131pmp, ↓S131mpp, ↓S131pp, ↓N131b, ↓A132b, ↓S132b, ↓N132b, ↓A133b, ↓S133b, ↓N133b, ↓A134b, ↓S134b, ↓N134b, ↓A135b, ↓S135b, ↓N135b, ↓A136b, ↓S136b, ↓N136b, ↓A137b, ↓A137m, ↓A137p, ↓A137mp, ↓A137pm, ↓A137pmp, ↓A137mpp, ↓A137pp, ↓S137b, ↓S137m, ↓S137p, ↓S137mp, ↓S137pm, ↓S137pmp, ↓S137mpp, ↓S137pp, ↓N137b, ↓A138b, ↓S138b, ↓N138b, ↓A139b, ↓A139m, ↓A139p, ↓A139mp, ↓A139pm, ↓A139pmp, ↓A139mpp, ↓A139pp, ↓S139b, ↓S139m, ↓S139p, ↓S139mp, ↓S139pm, ↓S139pmp, ↓S139mpp, ↓S139pp, ↓N139b, ↓A140b, ↓S140b, ↓N140b, ↓A141b, ↓S141b, ↓N141b, ↓A142b, ↓S142b, ↓N142b, ↓A143b, ↓A143m, ↓A143p, ↓A143mp, ↓A143pm, ↓A143pmp, ↓A143mpp, ↓A143pp, ↓S143b, ↓S143m, ↓S143p, ↓S143mp, ↓S143pm, ↓S143pmp, ↓S143mpp, ↓S143pp, ↓A144b, ↓S144b, A127b, S127b, A128b, S128b, A129b, S129b, A130b, S130b, A131b, S131b, A132b, S132b, A133b, S133b, A134b, S134b, A135b, S135b, A136b, S136b, A137b, S137b, A138b, S138b, A139b, S139b, A140b, S140b, A141b, S141b, A142b, S142b, A143b, S143b, A144b, S144b, ↓P126_3n, ↓P126_12n, ↓P126_12o, ↓zc e5, t2']
      · refine IV_T h0 (by rw [← hM1]; rfl) (fun c i q => ?_) ⟨tl + 1, ?_, setI_eq, by omega, fun i hi => ?_⟩
        · rw [setI_at, if_neg (by omega), setI_nk (by omega), ← hM1, setI_at, if_neg (by omega), setI_nk (by omega)]
        · rw [setI_nk (by omega), setI_nk (by omega), ← hM1, setI_eq]
        · by_cases e : i = tl
          · subst e
            refine ⟨j, hj, ?_, ?_⟩
            · rw [setI_nk (by omega), setI_nk (by omega), ← hM1, setI_nk (by omega), setI_eq]
            · rw [setI_nk (by omega), setI_eq]
          · obtain ⟨x, y1, y2, y3⟩ := t4 i (by omega)
            refine ⟨x, y1, ?_, ?_⟩
            · rw [setI_nk (by omega), setI_nk (by omega), ← hM1, setI_nk (by omega), setI_ne e]; exact y2
            · rw [setI_nk (by omega), setI_ne e, ← hM1, setI_nk (by omega), setI_nk (by omega)]; exact y3
theorem m_h22 {M0 : PM} {n : Nat} (hn : n ≤ 100) : ∀ m i (M : PM), i ≤ n → n - i < m → M.1 126 10 = nI n → M.2 = M0.2 → (∀ c j, ¬ (c = 133) → M.1 c j = M0.1 c j) → (∀ j, j < i → M.1 133 j = M0.1 130 j) → ∃ M', zfix (fun _ _ _ => none) (bX12_house_22 N) m (enc z M) (z + 126) (nI i) = zcall (fX12_readAll N (enc z (setI M' 126 5 (nI 0))) (z + 126)) (fun v_4 h_3 => if v_4 = nI 0 then (zgI h_3 (z + 126) 12 11).bind fun v_6 => some (-nI 10 - v_6, h_3) else zfix (fun _ _ _ => none) (bX12_house_70 N) N h_3 (z + 126) (nI 0)) ∧ M'.2 = M0.2 ∧ (∀ c j, ¬ (c = 133) → M'.1 c j = M0.1 c j) ∧ ∀ j, j < n → M'.1 133 j = M0.1 130 j := by
  intro m
  induction m with
  | zero => intro i M _ h; omega
  | succ m ih =>
    intro i M hi hm h10 h2 hF hr
    rw [zfix_succ, bX12_house_22]
    simp only [lit]
    by_cases h : i = n
    · subst h
      refine ⟨M, ?_, h2, hF, hr⟩
      simp (disch := omega) only [↓znm_, ↓reduceIte, rn0, rn1, rbI, nle_t, nle_f, nlt_t, nlt_f, neq_t, neq_f, x_add, x_mul, x_sub, x_div, ↓x_rem, x_remN, setI_eq, setI_ne, setI_nk, setI_2, bn0, bn1, reduceCtorEq, ↓O126b, ↓G126_0b, ↓G126_1b, ↓G126_2b, ↓G126_3b, ↓P126_3b, ↓G126_4b, ↓G126_5b, ↓P126_5b, ↓G126_6b, ↓G126_7b, ↓G126_8b, ↓P126_8b, ↓G126_9b, ↓G126_10b, ↓P126_10b, ↓G126_11b, ↓P126_11b, ↓G126_12b, ↓P126_12b, ↓G126_13b, ↓P126_13b, ↓G126_14b, ↓P126_14b, ↓G126_15b, ↓P126_15b, ↓G126_16b, ↓G126_17b, ↓G126_18b, ↓G126_19b, ↓G126_20b, ↓G126_21b, ↓G126_22b, ↓G126_23b, ↓P126_23b, ↓G126_24b, ↓G126_25b, ↓G126_26b, ↓G126_27b, ↓A127b, ↓A127m, ↓A127p, ↓A127mp, ↓A127pm, ↓A127pmp, ↓A127mpp, ↓A127pp, ↓S127b, ↓S127m, ↓S127p, ↓S127mp, ↓S127pm, ↓S127pmp, ↓S127mpp, ↓S127pp, ↓N127b, ↓A128b, ↓S128b, ↓N128b, ↓A129b, ↓S129b, ↓N129b, ↓A130b, ↓S130b, ↓N130b, ↓A131b, ↓A131m, ↓A131p, ↓A131mp, ↓A131pm, ↓A131pmp, ↓A131mpp, ↓A131pp, ↓S131b, ↓S131m, ↓S131p, ↓S131mp, ↓S131pm, ↓S131pmp, ↓S131mpp, ↓S131pp, ↓N131b, ↓A132b, ↓S132b, ↓N132b, ↓A133b, ↓S133b, ↓N133b, ↓A134b, ↓S134b, ↓N134b, ↓A135b, ↓S135b, ↓N135b, ↓A136b, ↓S136b, ↓N136b, ↓A137b, ↓A137m, ↓A137p, ↓A137mp, ↓A137pm, ↓A137pmp, ↓A137mpp, ↓A137pp, ↓S137b, ↓S137m, ↓S137p, ↓S137mp, ↓S137pm, ↓S137pmp, ↓S137mpp, ↓S137pp, ↓N137b, ↓A138b, ↓S138b, ↓N138b, ↓A139b, ↓A139m, ↓A139p, ↓A139mp, ↓A139pm, ↓A139pmp, ↓A139mpp, ↓A139pp, ↓S139b, ↓S139m, ↓S139p, ↓S139mp, ↓S139pm, ↓S139pmp, ↓S139mpp, ↓S139pp, ↓N139b, ↓A140b, ↓S140b, ↓N140b, ↓A141b, ↓S141b, ↓N141b, ↓A142b, ↓S142b, ↓N142b, ↓A143b, ↓A143m, ↓A143p, ↓A143mp, ↓A143pm, ↓A143pmp, ↓A143mpp, ↓A143pp, ↓S143b, ↓S143m, ↓S143p, ↓S143mp, ↓S143pm, ↓S143pmp, ↓S143mpp, ↓S143pp, ↓A144b, ↓S144b, A127b, S127b, A128b, S128b, A129b, S129b, A130b, S130b, A131b, S131b, A132b, S132b, A133b, S133b, A134b, S134b, A135b, S135b, A136b, S136b, A137b, S137b, A138b, S138b, A139b, S139b, A140b, S140b, A141b, S141b, A142b, S142b, A143b, S143b, A144b, S144b, ↓P126_3n, ↓P126_12n, ↓P126_12o, h10]
      rfl
    · have e := hF 130 i (by omega)
      simp (disch := omega) only [↓znm_, ↓reduceIte, rn0, rn1, rbI, nle_t, nle_f, nlt_t, nlt_f, neq_t, neq_f, x_add, x_mul, x_sub, x_div, ↓x_rem, x_remN, setI_eq, setI_ne, setI_nk, setI_2, bn0, bn1, reduceCtorEq, ↓O126b, ↓G126_0b, ↓G126_1b, ↓G126_2b, ↓G126_3b, ↓P126_3b, ↓G126_4b, ↓G126_5b, ↓P126_5b, ↓G126_6b, ↓G126_7b, ↓G126_8b, ↓P126_8b, ↓G126_9b, ↓G126_10b, ↓P126_10b, ↓G126_11b, ↓P126_11b, ↓G126_12b, ↓P126_12b, ↓G126_13b, ↓P126_13b, ↓G126_14b, ↓P126_14b, ↓G126_15b, ↓P126_15b, ↓G126_16b, ↓G126_17b, ↓G126_18b, ↓G126_19b, ↓G126_20b, ↓G126_21b, ↓G126_22b, ↓G126_23b, ↓P126_23b, ↓G126_24b, ↓G126_25b, ↓G126_26b, ↓G126_27b, ↓A127b, ↓A127m, ↓A127p, ↓A127mp, ↓A127pm, ↓A127pmp, ↓A127mpp, ↓A127pp, ↓S127b, ↓S127m, ↓S127p, ↓S127mp, ↓S127pm, ↓S127pmp, ↓S127mpp, ↓S127pp, ↓N127b, ↓A128b, ↓S128b, ↓N128b, ↓A129b, ↓S129b, ↓N129b, ↓A130b, ↓S130b, ↓N130b, ↓A131b, ↓A131m, ↓A131p, ↓A131mp, ↓A131pm, ↓A131pmp, ↓A131mpp, ↓A131pp, ↓S131b, ↓S131m, ↓S131p, ↓S131mp, ↓S131pm, ↓S131pmp, ↓S131mpp, ↓S131pp, ↓N131b, ↓A132b, ↓S132b, ↓N132b, ↓A133b, ↓S133b, ↓N133b, ↓A134b, ↓S134b, ↓N134b, ↓A135b, ↓S135b, ↓N135b, ↓A136b, ↓S136b, ↓N136b, ↓A137b, ↓A137m, ↓A137p, ↓A137mp, ↓A137pm, ↓A137pmp, ↓A137mpp, ↓A137pp, ↓S137b, ↓S137m, ↓S137p, ↓S137mp, ↓S137pm, ↓S137pmp, ↓S137mpp, ↓S137pp, ↓N137b, ↓A138b, ↓S138b, ↓N138b, ↓A139b, ↓A139m, ↓A139p, ↓A139mp, ↓A139pm, ↓A139pmp, ↓A139mpp, ↓A139pp, ↓S139b, ↓S139m, ↓S139p, ↓S139mp, ↓S139pm, ↓S139pmp, ↓S139mpp, ↓S139pp, ↓N139b, ↓A140b, ↓S140b, ↓N140b, ↓A141b, ↓S141b, ↓N141b, ↓A142b, ↓S142b, ↓N142b, ↓A143b, ↓A143m, ↓A143p, ↓A143mp, ↓A143pm, ↓A143pmp, ↓A143mpp, ↓A143pp, ↓S143b, ↓S143m, ↓S143p, ↓S143mp, ↓S143pm, ↓S143pmp, ↓S143mpp, ↓S143pp, ↓A144b, ↓S144b, A127b, S127b, A128b, S128b, A129b, S129b, A130b, S130b, A131b, S131b, A132b, S132b, A133b, S133b, A134b, S134b, A135b, S135b, A136b, S136b, A137b, S137b, A138b, S138b, A139b, S139b, A140b, S140b, A141b, S141b, A142b, S142b, A143b, S143b, A144b, S144b, ↓P126_3n, ↓P126_12n, ↓P126_12o, h10, e]
      refine ih (i + 1) _ (by omega) (by omega) (by rw [setI_nk (by omega)]; exact h10) h2 (fun c j q => by rw [setI_nk q]; exact hF c j q) (fun j hj => ?_)
      by_cases q : j = i
      · subst q; exact setI_eq
      · rw [setI_ne q]; exact hr j (by omega)
theorem m_h70 {M0 : PM} {n k : Nat} (hn : n ≤ 100) (hk : k < 6) : ∀ m i (M : PM), i ≤ n → n - i < m → M.1 126 10 = nI n → M.1 126 8 = nI k → M.2 = M0.2 → (∀ c j, ¬ (c = 131 ∧ 100 * k ≤ j) → M.1 c j = M0.1 c j) → (∀ j, j < i → M.1 131 (100 * k + j) = M0.1 133 j) → ∃ M', zfix (fun _ _ _ => none) (bX12_house_70 N) m (enc z M) (z + 126) (nI i) = some (nI k, enc z M') ∧ M'.2 = M0.2 ∧ (∀ c j, ¬ ((c = 131 ∧ 100 * k ≤ j) ∨ (c = 132 ∧ j = k) ∨ (c = 126 ∧ j = 8) ∨ (c = 127 ∧ j = 80)) → M'.1 c j = M0.1 c j) ∧ (∀ j, j < n → M'.1 131 (100 * k + j) = M0.1 133 j) ∧ M'.1 132 k = nI n ∧ M'.1 126 8 = nI (k + 1) ∧ M'.1 127 80 = nI (k + 1) := by
  intro m
  induction m with
  | zero => intro i M _ h; omega
  | succ m ih =>
    intro i M hi hm h10 h8 h2 hF hr
    rw [zfix_succ, bX12_house_70]
    simp only [lit]
    by_cases h : i = n
    · subst h
      refine ⟨setI (setI (setI M 132 k (nI i)) 126 8 (nI (k + 1))) 127 80 (nI (k + 1)), ?_, h2, fun c j q => ?_, fun j hj => ?_, ?_, ?_, setI_eq⟩
      · simp (disch := omega) only [↓znm_, ↓reduceIte, rn0, rn1, rbI, nle_t, nle_f, nlt_t, nlt_f, neq_t, neq_f, x_add, x_mul, x_sub, x_div, ↓x_rem, x_remN, setI_eq, setI_ne, setI_nk, setI_2, bn0, bn1, reduceCtorEq, ↓O126b, ↓G126_0b, ↓G126_1b, ↓G126_2b, ↓G126_3b, ↓P126_3b, ↓G126_4b, ↓G126_5b, ↓P126_5b, ↓G126_6b, ↓G126_7b, ↓G126_8b, ↓P126_8b, ↓G126_9b, ↓G126_10b, ↓P126_10b, ↓G126_11b, ↓P126_11b, ↓G126_12b, ↓P126_12b, ↓G126_13b, ↓P126_13b, ↓G126_14b, ↓P126_14b, ↓G126_15b, ↓P126_15b, ↓G126_16b, ↓G126_17b, ↓G126_18b, ↓G126_19b, ↓G126_20b, ↓G126_21b, ↓G126_22b, ↓G126_23b, ↓P126_23b, ↓G126_24b, ↓G126_25b, ↓G126_26b, ↓G126_27b, ↓A127b, ↓A127m, ↓A127p, ↓A127mp, ↓A127pm, ↓A127pmp, ↓A127mpp, ↓A127pp, ↓S127b, ↓S127m, ↓S127p, ↓S127mp, ↓S127pm, ↓S127pmp, ↓S127mpp, ↓S127pp, ↓N127b, ↓A128b, ↓S128b, ↓N128b, ↓A129b, ↓S129b, ↓N129b, ↓A130b, ↓S130b, ↓N130b, ↓A131b, ↓A131m, ↓A131p, ↓A131mp, ↓A131pm, ↓A131pmp, ↓A131mpp, ↓A131pp, ↓S131b, ↓S131m, ↓S131p, ↓S131mp, ↓S131pm, ↓S131pmp, ↓S131mpp, ↓S131pp, ↓N131b, ↓A132b, ↓S132b, ↓N132b, ↓A133b, ↓S133b, ↓N133b, ↓A134b, ↓S134b, ↓N134b, ↓A135b, ↓S135b, ↓N135b, ↓A136b, ↓S136b, ↓N136b, ↓A137b, ↓A137m, ↓A137p, ↓A137mp, ↓A137pm, ↓A137pmp, ↓A137mpp, ↓A137pp, ↓S137b, ↓S137m, ↓S137p, ↓S137mp, ↓S137pm, ↓S137pmp, ↓S137mpp, ↓S137pp, ↓N137b, ↓A138b, ↓S138b, ↓N138b, ↓A139b, ↓A139m, ↓A139p, ↓A139mp, ↓A139pm, ↓A139pmp, ↓A139mpp, ↓A139pp, ↓S139b, ↓S139m, ↓S139p, ↓S139mp, ↓S139pm, ↓S139pmp, ↓S139mpp, ↓S139pp, ↓N139b, ↓A140b, ↓S140b, ↓N140b, ↓A141b, ↓S141b, ↓N141b, ↓A142b, ↓S142b, ↓N142b, ↓A143b, ↓A143m, ↓A143p, ↓A143mp, ↓A143pm, ↓A143pmp, ↓A143mpp, ↓A143pp, ↓S143b, ↓S143m, ↓S143p, ↓S143mp, ↓S143pm, ↓S143pmp, ↓S143mpp, ↓S143pp, ↓A144b, ↓S144b, A127b, S127b, A128b, S128b, A129b, S129b, A130b, S130b, A131b, S131b, A132b, S132b, A133b, S133b, A134b, S134b, A135b, S135b, A136b, S136b, A137b, S137b, A138b, S138b, A139b, S139b, A140b, S140b, A141b, S141b, A142b, S142b, A143b, S143b, A144b, S144b, ↓P126_3n, ↓P126_12n, ↓P126_12o, h10, h8, Nat.add_sub_cancel]
      · rw [setI_at, if_neg (by omega), setI_at, if_neg (by omega), setI_at, if_neg (by omega)]; exact hF c j (by omega)
      · rw [setI_nk (by omega), setI_nk (by omega), setI_nk (by omega)]; exact hr j hj
      · rw [setI_nk (by omega), setI_nk (by omega), setI_eq]
      · rw [setI_nk (by omega), setI_eq]
    · have e := hF 133 i (by omega)
      simp (disch := omega) only [↓znm_, ↓reduceIte, rn0, rn1, rbI, nle_t, nle_f, nlt_t, nlt_f, neq_t, neq_f, x_add, x_mul, x_sub, x_div, ↓x_rem, x_remN, setI_eq, setI_ne, setI_nk, setI_2, bn0, bn1, reduceCtorEq, ↓O126b, ↓G126_0b, ↓G126_1b, ↓G126_2b, ↓G126_3b, ↓P126_3b, ↓G126_4b, ↓G126_5b, ↓P126_5b, ↓G126_6b, ↓G126_7b, ↓G126_8b, ↓P126_8b, ↓G126_9b, ↓G126_10b, ↓P126_10b, ↓G126_11b, ↓P126_11b, ↓G126_12b, ↓P126_12b, ↓G126_13b, ↓P126_13b, ↓G126_14b, ↓P126_14b, ↓G126_15b, ↓P126_15b, ↓G126_16b, ↓G126_17b, ↓G126_18b, ↓G126_19b, ↓G126_20b, ↓G126_21b, ↓G126_22b, ↓G126_23b, ↓P126_23b, ↓G126_24b, ↓G126_25b, ↓G126_26b, ↓G126_27b, ↓A127b, ↓A127m, ↓A127p, ↓A127mp, ↓A127pm, ↓A127pmp, ↓A127mpp, ↓A127pp, ↓S127b, ↓S127m, ↓S127p, ↓S127mp, ↓S127pm, ↓S127pmp, ↓S127mpp, ↓S127pp, ↓N127b, ↓A128b, ↓S128b, ↓N128b, ↓A129b, ↓S129b, ↓N129b, ↓A130b, ↓S130b, ↓N130b, ↓A131b, ↓A131m, ↓A131p, ↓A131mp, ↓A131pm, ↓A131pmp, ↓A131mpp, ↓A131pp, ↓S131b, ↓S131m, ↓S131p, ↓S131mp, ↓S131pm, ↓S131pmp, ↓S131mpp, ↓S131pp, ↓N131b, ↓A132b, ↓S132b, ↓N132b, ↓A133b, ↓S133b, ↓N133b, ↓A134b, ↓S134b, ↓N134b, ↓A135b, ↓S135b, ↓N135b, ↓A136b, ↓S136b, ↓N136b, ↓A137b, ↓A137m, ↓A137p, ↓A137mp, ↓A137pm, ↓A137pmp, ↓A137mpp, ↓A137pp, ↓S137b, ↓S137m, ↓S137p, ↓S137mp, ↓S137pm, ↓S137pmp, ↓S137mpp, ↓S137pp, ↓N137b, ↓A138b, ↓S138b, ↓N138b, ↓A139b, ↓A139m, ↓A139p, ↓A139mp, ↓A139pm, ↓A139pmp, ↓A139mpp, ↓A139pp, ↓S139b, ↓S139m, ↓S139p, ↓S139mp, ↓S139pm, ↓S139pmp, ↓S139mpp, ↓S139pp, ↓N139b, ↓A140b, ↓S140b, ↓N140b, ↓A141b, ↓S141b, ↓N141b, ↓A142b, ↓S142b, ↓N142b, ↓A143b, ↓A143m, ↓A143p, ↓A143mp, ↓A143pm, ↓A143pmp, ↓A143mpp, ↓A143pp, ↓S143b, ↓S143m, ↓S143p, ↓S143mp, ↓S143pm, ↓S143pmp, ↓S143mpp, ↓S143pp, ↓A144b, ↓S144b, A127b, S127b, A128b, S128b, A129b, S129b, A130b, S130b, A131b, S131b, A132b, S132b, A133b, S133b, A134b, S134b, A135b, S135b, A136b, S136b, A137b, S137b, A138b, S138b, A139b, S139b, A140b, S140b, A141b, S141b, A142b, S142b, A143b, S143b, A144b, S144b, ↓P126_3n, ↓P126_12n, ↓P126_12o, h10, h8, e]
      refine ih (i + 1) _ (by omega) (by omega) (by rw [setI_nk (by omega)]; exact h10) (by rw [setI_nk (by omega)]; exact h8) h2 (fun c j q => by rw [setI_at, if_neg (by omega)]; exact hF c j q) (fun j hj => ?_)
      by_cases q : j = i
      · subst q; exact setI_eq
      · rw [setI_ne (by omega)]; exact hr j (by omega)
theorem m_house (hN : 300 ≤ N) {M : PM} {n k : Nat} {tx : Nat → Nat} (hn : n ≤ 100) (hk : k < 6) (h5 : M.1 126 5 = nI n) (h8 : M.1 126 8 = nI k) (hK : KT M) (ht : ∀ i, i < n → M.1 130 i = nI (tx i) ∧ tx i < 128) : ∃ M', M'.2 = M.2 ∧ M'.1 126 5 = nI 0 ∧ (((pAll tx n).1 && decide ((pAll tx n).2.1 = n)) = false → fX12_house N (enc z M) (z + 126) = some (-nI 10 - nI (pAll tx n).2.1, enc z M') ∧ ∀ c j, ¬ (c = 133 ∨ (c = 126 ∧ (j = 5 ∨ (10 ≤ j ∧ j ≤ 15)))) → M'.1 c j = M.1 c j) ∧ (((pAll tx n).1 && decide ((pAll tx n).2.1 = n)) = true → fX12_house N (enc z M) (z + 126) = some (nI k, enc z M') ∧ (∀ c j, ¬ (c = 133 ∨ (c = 126 ∧ (j = 5 ∨ j = 8 ∨ (10 ≤ j ∧ j ≤ 15))) ∨ (c = 131 ∧ 100 * k ≤ j) ∨ (c = 132 ∧ j = k) ∨ (c = 127 ∧ j = 80)) → M'.1 c j = M.1 c j) ∧ (∀ j, j < n → M'.1 131 (100 * k + j) = nI (tx j)) ∧ M'.1 132 k = nI n ∧ M'.1 126 8 = nI (k + 1) ∧ M'.1 127 80 = nI (k + 1)) := by
  obtain ⟨M1, g1, g2, g3, g4⟩ := m_h22 (z := z) N (M0 := setI M 126 10 (nI n)) hn N 0 (setI M 126 10 (nI n)) (by omega) (by omega) setI_eq rfl (fun _ _ _ => rfl) (fun j hj => by omega)
  have hX : MX (setI M1 126 5 (nI 0)) n tx := by
    refine ⟨by rw [setI_ne (by omega), g3 _ _ (by omega)]; exact setI_eq, hn, fun i hi => ?_, ?_⟩
    · rw [setI_nk (by omega), g4 i hi, setI_nk (by omega)]; exact ht i hi
    · obtain ⟨k1, k2, k3⟩ := hK
      exact ⟨fun j hj => by rw [setI_nk (by omega), g3 _ _ (by omega), setI_nk (by omega)]; exact k1 j hj, fun j hj => by rw [setI_nk (by omega), g3 _ _ (by omega), setI_nk (by omega)]; exact k2 j hj, fun j hj => by rw [setI_nk (by omega), g3 _ _ (by omega), setI_nk (by omega)]; exact k3 j hj⟩
  obtain ⟨M2, f1, f2, f3, f4⟩ := m_all (z := z) N hN hX (nm := fun j => (setI M1 126 5 (nI 0)).1 134 j) (fun j hj => rfl)
  have hF2 : ∀ c j, ¬ (c = 133 ∨ (c = 126 ∧ (j = 5 ∨ (10 ≤ j ∧ j ≤ 15)))) → M2.1 c j = M.1 c j := by
    intro c j q
    rw [f2.2 c j (by omega), setI_at, if_neg (by omega), g3 c j (by omega), setI_at, if_neg (by omega)]
  have hB2 : M2.2 = M.2 := by rw [f2.1]; exact g2
  have h55 : M2.1 126 5 = nI 0 := by rw [f2.2 126 5 (by omega), setI_eq]
  cases hb : (pAll tx n).1 && decide ((pAll tx n).2.1 = n) with
  | false =>
    rw [hb] at f1
    refine ⟨M2, hB2, h55, fun _ => ⟨?_, hF2⟩, fun q => by cases q⟩
    rw [fX12_house]; simp only [lit]
    simp (disch := omega) only [↓znm_, ↓reduceIte, rn0, rn1, rbI, nle_t, nle_f, nlt_t, nlt_f, neq_t, neq_f, x_add, x_mul, x_sub, x_div, ↓x_rem, x_remN, setI_eq, setI_ne, setI_nk, setI_2, bn0, bn1, reduceCtorEq, ↓O126b, ↓G126_0b, ↓G126_1b, ↓G126_2b, ↓G126_3b, ↓P126_3b, ↓G126_4b, ↓G126_5b, ↓P126_5b, ↓G126_6b, ↓G126_7b, ↓G126_8b, ↓P126_8b, ↓G126_9b, ↓G126_10b, ↓P126_10b, ↓G126_11b, ↓P126_11b, ↓G126_12b, ↓P126_12b, ↓G126_13b, ↓P126_13b, ↓G126_14b, ↓P126_14b, ↓G126_15b, ↓P126_15b, ↓G126_16b, ↓G126_17b, ↓G126_18b, ↓G126_19b, ↓G126_20b, ↓G126_21b, ↓G126_22b, ↓G126_23b, ↓P126_23b, ↓G126_24b, ↓G126_25b, ↓G126_26b, ↓G126_27b, ↓A127b, ↓A127m, ↓A127p, ↓A127mp, ↓A127pm, ↓A127pmp, ↓A127mpp, ↓A127pp, ↓S127b, ↓S127m, ↓S127p, ↓S127mp, ↓S127pm, ↓S127pmp, ↓S127mpp, ↓S127pp, ↓N127b, ↓A128b, ↓S128b, ↓N128b, ↓A129b, ↓S129b, ↓N129b, ↓A130b, ↓S130b, ↓N130b, ↓A131b, ↓A131m, ↓A131p, ↓A131mp, ↓A131pm, ↓A131pmp, ↓A131mpp, ↓A131pp, ↓S131b, ↓S131m, ↓S131p, ↓S131mp, ↓S131pm, ↓S131pmp, ↓S131mpp, ↓S131pp, ↓N131b, ↓A132b, ↓S132b, ↓N132b, ↓A133b, ↓S133b, ↓N133b, ↓A134b, ↓S134b, ↓N134b, ↓A135b, ↓S135b, ↓N135b, ↓A136b, ↓S136b, ↓N136b, ↓A137b, ↓A137m, ↓A137p, ↓A137mp, ↓A137pm, ↓A137pmp, ↓A137mpp, ↓A137pp, ↓S137b, ↓S137m, ↓S137p, ↓S137mp, ↓S137pm, ↓S137pmp, ↓S137mpp, ↓S137pp, ↓N137b, ↓A138b, ↓S138b, ↓N138b, ↓A139b, ↓A139m, ↓A139p, ↓A139mp, ↓A139pm, ↓A139pmp, ↓A139mpp, ↓A139pp, ↓S139b, ↓S139m, ↓S139p, ↓S139mp, ↓S139pm, ↓S139pmp, ↓S139mpp, ↓S139pp, ↓N139b, ↓A140b, ↓S140b, ↓N140b, ↓A141b, ↓S141b, ↓N141b, ↓A142b, ↓S142b, ↓N142b, ↓A143b, ↓A143m, ↓A143p, ↓A143mp, ↓A143pm, ↓A143pmp, ↓A143mpp, ↓A143pp, ↓S143b, ↓S143m, ↓S143p, ↓S143mp, ↓S143pm, ↓S143pmp, ↓S143mpp, ↓S143pp, ↓A144b, ↓S144b, A127b, S127b, A128b, S128b, A129b, S129b, A130b, S130b, A131b, S131b, A132b, S132b, A133b, S133b, A134b, S134b, A135b, S135b, A136b, S136b, A137b, S137b, A138b, S138b, A139b, S139b, A140b, S140b, A141b, S141b, A142b, S142b, A143b, S143b, A144b, S144b, ↓P126_3n, ↓P126_12n, ↓P126_12o, h8, h5]
    rw [g1, zc f1]
    simp (disch := omega) only [↓znm_, ↓reduceIte, rn0, rn1, rbI, nle_t, nle_f, nlt_t, nlt_f, neq_t, neq_f, x_add, x_mul, x_sub, x_div, ↓x_rem, x_remN, setI_eq, setI_ne, setI_nk, setI_2, bn0, bn1, reduceCtorEq, ↓O126b, ↓G126_0b, ↓G126_1b, ↓G126_2b, ↓G126_3b, ↓P126_3b, ↓G126_4b, ↓G126_5b, ↓P126_5b, ↓G126_6b, ↓G126_7b, ↓G126_8b, ↓P126_8b, ↓G126_9b, ↓G126_10b, ↓P126_10b, ↓G126_11b, ↓P126_11b, ↓G126_12b, ↓P126_12b, ↓G126_13b, ↓P126_13b, ↓G126_14b, ↓P126_14b, ↓G126_15b, ↓P126_15b, ↓G126_16b, ↓G126_17b, ↓G126_18b, ↓G126_19b, ↓G126_20b, ↓G126_21b, ↓G126_22b, ↓G126_23b, ↓P126_23b, ↓G126_24b, ↓G126_25b, ↓G126_26b, ↓G126_27b, ↓A127b, ↓A127m, ↓A127p, ↓A127mp, ↓A127pm, ↓A127pmp, ↓A127mpp, ↓A127pp, ↓S127b, ↓S127m, ↓S127p, ↓S127mp, ↓S127pm, ↓S127pmp, ↓S127mpp, ↓S127pp, ↓N127b, ↓A128b, ↓S128b, ↓N128b, ↓A129b, ↓S129b, ↓N129b, ↓A130b, ↓S130b, ↓N130b, ↓A131b, ↓A131m, ↓A131p, ↓A131mp, ↓A131pm, ↓A131pmp, ↓A131mpp, ↓A131pp, ↓S131b, ↓S131m, ↓S131p, ↓S131mp, ↓S131pm, ↓S131pmp, ↓S131mpp, ↓S131pp, ↓N131b, ↓A132b, ↓S132b, ↓N132b, ↓A133b, ↓S133b, ↓N133b, ↓A134b, ↓S134b, ↓N134b, ↓A135b, ↓S135b, ↓N135b, ↓A136b, ↓S136b, ↓N136b, ↓A137b, ↓A137m, ↓A137p, ↓A137mp, ↓A137pm, ↓A137pmp, ↓A137mpp, ↓A137pp, ↓S137b, ↓S137m, ↓S137p, ↓S137mp, ↓S137pm, ↓S137pmp, ↓S137mpp, ↓S137pp, ↓N137b, ↓A138b, ↓S138b, ↓N138b, ↓A139b, ↓A139m, ↓A139p, ↓A139mp, ↓A139pm, ↓A139pmp, ↓A139mpp, ↓A139pp, ↓S139b, ↓S139m, ↓S139p, ↓S139mp, ↓S139pm, ↓S139pmp, ↓S139mpp, ↓S139pp, ↓N139b, ↓A140b, ↓S140b, ↓N140b, ↓A141b, ↓S141b, ↓N141b, ↓A142b, ↓S142b, ↓N142b, ↓A143b, ↓A143m, ↓A143p, ↓A143mp, ↓A143pm, ↓A143pmp, ↓A143mpp, ↓A143pp, ↓S143b, ↓S143m, ↓S143p, ↓S143mp, ↓S143pm, ↓S143pmp, ↓S143mpp, ↓S143pp, ↓A144b, ↓S144b, A127b, S127b, A128b, S128b, A129b, S129b, A130b, S130b, A131b, S131b, A132b, S132b, A133b, S133b, A134b, S134b, A135b, S135b, A136b, S136b, A137b, S137b, A138b, S138b, A139b, S139b, A140b, S140b, A141b, S141b, A142b, S142b, A143b, S143b, A144b, S144b, ↓P126_3n, ↓P126_12n, ↓P126_12o, f3]
  | true =>
    rw [hb] at f1
    obtain ⟨M3, b1, b2, b3, b4, b5, b6, b7⟩ := m_h70 (z := z) N (M0 := M2) hn hk N 0 M2 (by omega) (by omega) (by rw [f2.2 126 10 (by omega), setI_ne (by omega), g3 _ _ (by omega)]; exact setI_eq) (by rw [hF2 126 8 (by omega)]; exact h8) rfl (fun _ _ _ => rfl) (fun j hj => by omega)
    refine ⟨M3, by rw [b2]; exact hB2, by rw [b3 126 5 (by omega)]; exact h55, fun q => (by cases q), fun _ => ⟨?_, fun c j q => by rw [b3 c j (by omega)]; exact hF2 c j (by omega), fun j hj => ?_, b5, b6, b7⟩⟩
    · rw [fX12_house]; simp only [lit]
      simp (disch := omega) only [↓znm_, ↓reduceIte, rn0, rn1, rbI, nle_t, nle_f, nlt_t, nlt_f, neq_t, neq_f, x_add, x_mul, x_sub, x_div, ↓x_rem, x_remN, setI_eq, setI_ne, setI_nk, setI_2, bn0, bn1, reduceCtorEq, ↓O126b, ↓G126_0b, ↓G126_1b, ↓G126_2b, ↓G126_3b, ↓P126_3b, ↓G126_4b, ↓G126_5b, ↓P126_5b, ↓G126_6b, ↓G126_7b, ↓G126_8b, ↓P126_8b, ↓G126_9b, ↓G126_10b, ↓P126_10b, ↓G126_11b, ↓P126_11b, ↓G126_12b, ↓P126_12b, ↓G126_13b, ↓P126_13b, ↓G126_14b, ↓P126_14b, ↓G126_15b, ↓P126_15b, ↓G126_16b, ↓G126_17b, ↓G126_18b, ↓G126_19b, ↓G126_20b, ↓G126_21b, ↓G126_22b, ↓G126_23b, ↓P126_23b, ↓G126_24b, ↓G126_25b, ↓G126_26b, ↓G126_27b, ↓A127b, ↓A127m, ↓A127p, ↓A127mp, ↓A127pm, ↓A127pmp, ↓A127mpp, ↓A127pp, ↓S127b, ↓S127m, ↓S127p, ↓S127mp, ↓S127pm, ↓S127pmp, ↓S127mpp, ↓S127pp, ↓N127b, ↓A128b, ↓S128b, ↓N128b, ↓A129b, ↓S129b, ↓N129b, ↓A130b, ↓S130b, ↓N130b, ↓A131b, ↓A131m, ↓A131p, ↓A131mp, ↓A131pm, ↓A131pmp, ↓A131mpp, ↓A131pp, ↓S131b, ↓S131m, ↓S131p, ↓S131mp, ↓S131pm, ↓S131pmp, ↓S131mpp, ↓S131pp, ↓N131b, ↓A132b, ↓S132b, ↓N132b, ↓A133b, ↓S133b, ↓N133b, ↓A134b, ↓S134b, ↓N134b, ↓A135b, ↓S135b, ↓N135b, ↓A136b, ↓S136b, ↓N136b, ↓A137b, ↓A137m, ↓A137p, ↓A137mp, ↓A137pm, ↓A137pmp, ↓A137mpp, ↓A137pp, ↓S137b, ↓S137m, ↓S137p, ↓S137mp, ↓S137pm, ↓S137pmp, ↓S137mpp, ↓S137pp, ↓N137b, ↓A138b, ↓S138b, ↓N138b, ↓A139b, ↓A139m, ↓A139p, ↓A139mp, ↓A139pm, ↓A139pmp, ↓A139mpp, ↓A139pp, ↓S139b, ↓S139m, ↓S139p, ↓S139mp, ↓S139pm, ↓S139pmp, ↓S139mpp, ↓S139pp, ↓N139b, ↓A140b, ↓S140b, ↓N140b, ↓A141b, ↓S141b, ↓N141b, ↓A142b, ↓S142b, ↓N142b, ↓A143b, ↓A143m, ↓A143p, ↓A143mp, ↓A143pm, ↓A143pmp, ↓A143mpp, ↓A143pp, ↓S143b, ↓S143m, ↓S143p, ↓S143mp, ↓S143pm, ↓S143pmp, ↓S143mpp, ↓S143pp, ↓A144b, ↓S144b, A127b, S127b, A128b, S128b, A129b, S129b, A130b, S130b, A131b, S131b, A132b, S132b, A133b, S133b, A134b, S134b, A135b, S135b, A136b, S136b, A137b, S137b, A138b, S138b, A139b, S139b, A140b, S140b, A141b, S141b, A142b, S142b, A143b, S143b, A144b, S144b, ↓P126_3n, ↓P126_12n, ↓P126_12o, h8, h5]
      rw [g1, zc f1]
      simp (disch := omega) only [↓znm_, ↓reduceIte, rn0, rn1, rbI, nle_t, nle_f, nlt_t, nlt_f, neq_t, neq_f, x_add, x_mul, x_sub, x_div, ↓x_rem, x_remN, setI_eq, setI_ne, setI_nk, setI_2, bn0, bn1, reduceCtorEq, ↓O126b, ↓G126_0b, ↓G126_1b, ↓G126_2b, ↓G126_3b, ↓P126_3b, ↓G126_4b, ↓G126_5b, ↓P126_5b, ↓G126_6b, ↓G126_7b, ↓G126_8b, ↓P126_8b, ↓G126_9b, ↓G126_10b, ↓P126_10b, ↓G126_11b, ↓P126_11b, ↓G126_12b, ↓P126_12b, ↓G126_13b, ↓P126_13b, ↓G126_14b, ↓P126_14b, ↓G126_15b, ↓P126_15b, ↓G126_16b, ↓G126_17b, ↓G126_18b, ↓G126_19b, ↓G126_20b, ↓G126_21b, ↓G126_22b, ↓G126_23b, ↓P126_23b, ↓G126_24b, ↓G126_25b, ↓G126_26b, ↓G126_27b, ↓A127b, ↓A127m, ↓A127p, ↓A127mp, ↓A127pm, ↓A127pmp, ↓A127mpp, ↓A127pp, ↓S127b, ↓S127m, ↓S127p, ↓S127mp, ↓S127pm, ↓S127pmp, ↓S127mpp, ↓S127pp, ↓N127b, ↓A128b, ↓S128b, ↓N128b, ↓A129b, ↓S129b, ↓N129b, ↓A130b, ↓S130b, ↓N130b, ↓A131b, ↓A131m, ↓A131p, ↓A131mp, ↓A131pm, ↓A131pmp, ↓A131mpp, ↓A131pp, ↓S131b, ↓S131m, ↓S131p, ↓S131mp, ↓S131pm, ↓S131pmp, ↓S131mpp, ↓S131pp, ↓N131b, ↓A132b, ↓S132b, ↓N132b, ↓A133b, ↓S133b, ↓N133b, ↓A134b, ↓S134b, ↓N134b, ↓A135b, ↓S135b, ↓N135b, ↓A136b, ↓S136b, ↓N136b, ↓A137b, ↓A137m, ↓A137p, ↓A137mp, ↓A137pm, ↓A137pmp, ↓A137mpp, ↓A137pp, ↓S137b, ↓S137m, ↓S137p, ↓S137mp, ↓S137pm, ↓S137pmp, ↓S137mpp, ↓S137pp, ↓N137b, ↓A138b, ↓S138b, ↓N138b, ↓A139b, ↓A139m, ↓A139p, ↓A139mp, ↓A139pm, ↓A139pmp, ↓A139mpp, ↓A139pp, ↓S139b, ↓S139m, ↓S139p, ↓S139mp, ↓S139pm, ↓S139pmp, ↓S139mpp, ↓S139pp, ↓N139b, ↓A140b, ↓S140b, ↓N140b, ↓A141b, ↓S141b, ↓N141b, ↓A142b, ↓S142b, ↓N142b, ↓A143b, ↓A143m, ↓A143p, ↓A143mp, ↓A143pm, ↓A143pmp, ↓A143mpp, ↓A143pp, ↓S143b, ↓S143m, ↓S143p, ↓S143mp, ↓S143pm, ↓S143pmp, ↓S143mpp, ↓S143pp, ↓A144b, ↓S144b, A127b, S127b, A128b, S128b, A129b, S129b, A130b, S130b, A131b, S131b, A132b, S132b, A133b, S133b, A134b, S134b, A135b, S135b, A136b, S136b, A137b, S137b, A138b, S138b, A139b, S139b, A140b, S140b, A141b, S141b, A142b, S142b, A143b, S143b, A144b, S144b, ↓P126_3n, ↓P126_12n, ↓P126_12o]
      exact b1
    · rw [b4 j hj, f2.2 133 j (by omega), setI_nk (by omega), g4 j hj, setI_nk (by omega)]; exact (ht j hj).1
set_option maxHeartbeats 4000000 in
theorem s_house (hN : 300 ≤ N) (h : IV M R T hc) : ST z (fun h => fX11_house N h z) (fun h => fX12_house N h (z + 126)) M := by
  have h0 := h
  obtain ⟨hC, hM, hW, ⟨y1, y2, y3, y4, y5⟩, hI, ⟨tl, t1, t2, t3, t4⟩, hA, hP⟩ := h
  have hc6 := y5.2.1
  by_cases he : hc = 6
  · subst he
    refine ST_same h0 (r := -nI 4) ?_ ?_
    · show fX11_house N (enc z M) z = _
      rw [fX11_house]; simp only [lit]; simp (disch := omega) only [↓znm_, ↓reduceIte, rn0, rn1, rbI, nle_t, nle_f, nlt_t, nlt_f, neq_t, neq_f, x_add, x_mul, x_sub, x_div, ↓x_rem, x_remN, setI_eq, setI_ne, setI_nk, setI_2, bn0, bn1, reduceCtorEq, ↓O0b, ↓G0_0b, ↓G0_1b, ↓G0_2b, ↓P0_2b, ↓G0_3b, ↓G0_4b, ↓G0_5b, ↓G0_6b, ↓P0_6b, ↓G0_7b, ↓G0_8b, ↓P0_8b, ↓G0_9b, ↓G0_10b, ↓G0_11b, ↓G0_12b, ↓O1b, ↓G1_0b, ↓P1_0b, ↓G1_1b, ↓G1_2b, ↓G1_3b, ↓G1_4b, ↓G1_5b, ↓P1_5b, ↓G1_6b, ↓G1_7b, ↓G1_8b, ↓G1_9b, ↓P1_9b, ↓G1_10b, ↓G1_11b, ↓P1_11b, ↓G1_12b, ↓P1_12b, ↓G1_13b, ↓P1_13b, ↓G1_14b, ↓P1_14b, ↓G1_15b, ↓G1_16b, ↓P1_16b, ↓G1_17b, ↓G1_18b, ↓P1_18b, ↓G1_19b, ↓O85b, ↓G85_0b, ↓P85_0b, ↓G85_1b, ↓P85_1b, ↓G85_2b, ↓P85_2b, ↓G85_3b, ↓A2b, ↓S2b, ↓N2b, ↓A3b, ↓S3b, ↓N3b, ↓A4b, ↓S4b, ↓N4b, ↓A5b, ↓A5m, ↓A5p, ↓A5mp, ↓A5pm, ↓A5pmp, ↓A5mpp, ↓A5pp, ↓S5b, ↓S5m, ↓S5p, ↓S5mp, ↓S5pm, ↓S5pmp, ↓S5mpp, ↓S5pp, ↓N5b, ↓A6b, ↓S6b, ↓N6b, ↓A7b, ↓S7b, ↓N7b, ↓A8b, ↓S8b, ↓N8b, ↓A9b, ↓S9b, ↓N9b, ↓A84b, ↓S84b, ↓N84b, ↓A86b, ↓S86b, ↓N86b, ↓A88b, ↓S88b, ↓N88b, ↓A89b, ↓S89b, ↓N89b, ↓R10b, ↓R16b, ↓R27b, ↓R83b, ↓R87b, ↓R71b, ↓P0_2n, A2b, S2b, A3b, S3b, A4b, S4b, A5b, S5b, A6b, S6b, A7b, S7b, A8b, S8b, A9b, S9b, A84b, S84b, A86b, S86b, A88b, S88b, A89b, S89b, R10b, R16b, R27b, R83b, R87b, R71b, y1]
    · show fX12_house N (enc z M) (z + 126) = _
      rw [fX12_house]; simp only [lit]; simp (disch := omega) only [↓znm_, ↓reduceIte, rn0, rn1, rbI, nle_t, nle_f, nlt_t, nlt_f, neq_t, neq_f, x_add, x_mul, x_sub, x_div, ↓x_rem, x_remN, setI_eq, setI_ne, setI_nk, setI_2, bn0, bn1, reduceCtorEq, ↓O126b, ↓G126_0b, ↓G126_1b, ↓G126_2b, ↓G126_3b, ↓P126_3b, ↓G126_4b, ↓G126_5b, ↓P126_5b, ↓G126_6b, ↓G126_7b, ↓G126_8b, ↓P126_8b, ↓G126_9b, ↓G126_10b, ↓P126_10b, ↓G126_11b, ↓P126_11b, ↓G126_12b, ↓P126_12b, ↓G126_13b, ↓P126_13b, ↓G126_14b, ↓P126_14b, ↓G126_15b, ↓P126_15b, ↓G126_16b, ↓G126_17b, ↓G126_18b, ↓G126_19b, ↓G126_20b, ↓G126_21b, ↓G126_22b, ↓G126_23b, ↓P126_23b, ↓G126_24b, ↓G126_25b, ↓G126_26b, ↓G126_27b, ↓A127b, ↓A127m, ↓A127p, ↓A127mp, ↓A127pm, ↓A127pmp, ↓A127mpp, ↓A127pp, ↓S127b, ↓S127m, ↓S127p, ↓S127mp, ↓S127pm, ↓S127pmp, ↓S127mpp, ↓S127pp, ↓N127b, ↓A128b, ↓S128b, ↓N128b, ↓A129b, ↓S129b, ↓N129b, ↓A130b, ↓S130b, ↓N130b, ↓A131b, ↓A131m, ↓A131p, ↓A131mp, ↓A131pm, ↓A131pmp, ↓A131mpp, ↓A131pp, ↓S131b, ↓S131m, ↓S131p, ↓S131mp, ↓S131pm, ↓S131pmp, ↓S131mpp, ↓S131pp, ↓N131b, ↓A132b, ↓S132b, ↓N132b, ↓A133b, ↓S133b, ↓N133b, ↓A134b, ↓S134b, ↓N134b, ↓A135b, ↓S135b, ↓N135b, ↓A136b, ↓S136b, ↓N136b, ↓A137b, ↓A137m, ↓A137p, ↓A137mp, ↓A137pm, ↓A137pmp, ↓A137mpp, ↓A137pp, ↓S137b, ↓S137m, ↓S137p, ↓S137mp, ↓S137pm, ↓S137pmp, ↓S137mpp, ↓S137pp, ↓N137b, ↓A138b, ↓S138b, ↓N138b, ↓A139b, ↓A139m, ↓A139p, ↓A139mp, ↓A139pm, ↓A139pmp, ↓A139mpp, ↓A139pp, ↓S139b, ↓S139m, ↓S139p, ↓S139mp, ↓S139pm, ↓S139pmp, ↓S139mpp, ↓S139pp, ↓N139b, ↓A140b, ↓S140b, ↓N140b, ↓A141b, ↓S141b, ↓N141b, ↓A142b, ↓S142b, ↓N142b, ↓A143b, ↓A143m, ↓A143p, ↓A143mp, ↓A143pm, ↓A143pmp, ↓A143mpp, ↓A143pp, ↓S143b, ↓S143m, ↓S143p, ↓S143mp, ↓S143pm, ↓S143pmp, ↓S143mpp, ↓S143pp, ↓A144b, ↓S144b, A127b, S127b, A128b, S128b, A129b, S129b, A130b, S130b, A131b, S131b, A132b, S132b, A133b, S133b, A134b, S134b, A135b, S135b, A136b, S136b, A137b, S137b, A138b, S138b, A139b, S139b, A140b, S140b, A141b, S141b, A142b, S142b, A143b, S143b, A144b, S144b, ↓P126_3n, ↓P126_12n, ↓P126_12o, y2]
  · have hk : isH (90 + 4 * hc) := Or.inr ⟨hc, by omega, rfl⟩
    generalize htx : (fun i => (M.1 84 i).toNatClampNeg) = tx
    have ht : ∀ i, i < tl → M.1 84 i = nI (tx i) ∧ M.1 130 i = nI (tx i) ∧ tx i < 128 := by
      intro i hi
      obtain ⟨x, z1, z2, z3⟩ := t4 i hi
      have e : tx i = x := by rw [← htx]; show (M.1 84 i).toNatClampNeg = x; rw [z2, nclamp (by omega)]
      rw [e]; exact ⟨z2, z3, z1⟩
    obtain ⟨M1, l1, ⟨l2, l3, l4⟩, l5⟩ := c_learn (z := z) N hN hk (M := M) t3 (fun i hi => ⟨(ht i hi).1, (ht i hi).2.2⟩)
    have hpg := pAll_pg tx tl
    by_cases ok : (pAll tx tl).1 = true ∧ (pAll tx tl).2.1 = tl
    · rw [if_pos ok] at l1
      have okB : ((pAll tx tl).1 && decide ((pAll tx tl).2.1 = tl)) = true := by rw [ok.1, decide_eq_true ok.2]; rfl
      generalize hM2 : setI (setI (setI M1 0 8 (nI 0)) 1 13 (nI hc)) 0 6 (nI (hc + 1)) = M2
      have hF2 : ∀ c j, c ≠ 90 + 4 * hc → c ≠ 90 + 4 * hc + 1 → ¬ (c = 0 ∧ (j = 8 ∨ j = 6)) → ¬ (c = 1 ∧ j = 13) → M2.1 c j = M.1 c j := by
        intro c j q1 q2 q3 q4
        rw [← hM2, setI_at, if_neg (by omega), setI_at, if_neg (by omega), setI_at, if_neg (by omega)]
        exact l4 c j q1 q2
      have hkt : KT M2 := by
        obtain ⟨k1, k2, k3⟩ := y5.1
        exact ⟨fun i hi => by rw [hF2 _ _ (by omega) (by omega) (by omega) (by omega)]; exact k1 i hi, fun i hi => by rw [hF2 _ _ (by omega) (by omega) (by omega) (by omega)]; exact k2 i hi, fun i hi => by rw [hF2 _ _ (by omega) (by omega) (by omega) (by omega)]; exact k3 i hi⟩
      obtain ⟨M3, b1, b2, _, b3⟩ := m_house (z := z) N hN (M := M2) (n := tl) (k := hc) (tx := tx) t3 (by omega) (by rw [hF2 126 5 (by omega) (by omega) (by omega) (by omega)]; exact t2) (by rw [hF2 126 8 (by omega) (by omega) (by omega) (by omega)]; exact y2) hkt (fun i hi => by rw [hF2 130 i (by omega) (by omega) (by omega) (by omega)]; exact (ht i hi).2)
      obtain ⟨a1, a2, a3, a4, a5, a6⟩ := b3 okB
      have hF3 : ∀ c j, ¬ (c = 133 ∨ (c = 126 ∧ (j = 5 ∨ j = 8 ∨ (10 ≤ j ∧ j ≤ 15))) ∨ (c = 131 ∧ 100 * hc ≤ j) ∨ (c = 132 ∧ j = hc) ∨ (c = 127 ∧ j = 80) ∨ c = 90 + 4 * hc ∨ c = 90 + 4 * hc + 1 ∨ (c = 0 ∧ (j = 8 ∨ j = 6)) ∨ (c = 1 ∧ j = 13)) → M3.1 c j = M.1 c j := by
        intro c j q
        rw [a2 c j (by omega)]
        exact hF2 c j (by omega) (by omega) (by omega) (by omega)
      have h06 : M1.1 0 6 = nI hc := by rw [l4 0 6 (by omega) (by omega)]; exact y1
      refine ⟨nI hc, M2, M3, ?_, a1, updN R 80 (hc + 1), insT T hc (tl, tx), hc + 1, ?_⟩
      · show fX11_house N (enc z M) z = _
        rw [fX11_house]; simp only [lit]
        simp (disch := omega) only [↓znm_, ↓reduceIte, rn0, rn1, rbI, nle_t, nle_f, nlt_t, nlt_f, neq_t, neq_f, x_add, x_mul, x_sub, x_div, ↓x_rem, x_remN, setI_eq, setI_ne, setI_nk, setI_2, bn0, bn1, reduceCtorEq, ↓O0b, ↓G0_0b, ↓G0_1b, ↓G0_2b, ↓P0_2b, ↓G0_3b, ↓G0_4b, ↓G0_5b, ↓G0_6b, ↓P0_6b, ↓G0_7b, ↓G0_8b, ↓P0_8b, ↓G0_9b, ↓G0_10b, ↓G0_11b, ↓G0_12b, ↓O1b, ↓G1_0b, ↓P1_0b, ↓G1_1b, ↓G1_2b, ↓G1_3b, ↓G1_4b, ↓G1_5b, ↓P1_5b, ↓G1_6b, ↓G1_7b, ↓G1_8b, ↓G1_9b, ↓P1_9b, ↓G1_10b, ↓G1_11b, ↓P1_11b, ↓G1_12b, ↓P1_12b, ↓G1_13b, ↓P1_13b, ↓G1_14b, ↓P1_14b, ↓G1_15b, ↓G1_16b, ↓P1_16b, ↓G1_17b, ↓G1_18b, ↓P1_18b, ↓G1_19b, ↓O85b, ↓G85_0b, ↓P85_0b, ↓G85_1b, ↓P85_1b, ↓G85_2b, ↓P85_2b, ↓G85_3b, ↓A2b, ↓S2b, ↓N2b, ↓A3b, ↓S3b, ↓N3b, ↓A4b, ↓S4b, ↓N4b, ↓A5b, ↓A5m, ↓A5p, ↓A5mp, ↓A5pm, ↓A5pmp, ↓A5mpp, ↓A5pp, ↓S5b, ↓S5m, ↓S5p, ↓S5mp, ↓S5pm, ↓S5pmp, ↓S5mpp, ↓S5pp, ↓N5b, ↓A6b, ↓S6b, ↓N6b, ↓A7b, ↓S7b, ↓N7b, ↓A8b, ↓S8b, ↓N8b, ↓A9b, ↓S9b, ↓N9b, ↓A84b, ↓S84b, ↓N84b, ↓A86b, ↓S86b, ↓N86b, ↓A88b, ↓S88b, ↓N88b, ↓A89b, ↓S89b, ↓N89b, ↓R10b, ↓R16b, ↓R27b, ↓R83b, ↓R87b, ↓R71b, ↓P0_2n, A2b, S2b, A3b, S3b, A4b, S4b, A5b, S5b, A6b, S6b, A7b, S7b, A8b, S8b, A9b, S9b, A84b, S84b, A86b, S86b, A88b, S88b, A89b, S89b, R10b, R16b, R27b, R83b, R87b, R71b, y1, t1, ↓HOb' hk, ↓zc l1, h06, hM2]
        rw [← hM2, setI_nk (by omega), setI_eq]
      · refine ⟨?_, ?_, WF_80 hW (Nat.le_refl _), ⟨?_, a5, ?_, fun t ht' => ?_, ?_, by omega, fun t ht' => ?_⟩, ?_, ⟨0, ?_, b2, by omega, fun i hi => by omega⟩, ?_, ?_⟩
        · refine CR_80 hC (fun c j q1 q2 q3 => hF3 c j (by omega)) ?_
          rw [a2 1 13 (by omega), ← hM2, setI_nk (by omega), setI_eq]
          unfold hdI
          rw [if_neg (by omega), Nat.add_sub_cancel]
        · intro j hj
          by_cases e : j = 80
          · subst e; rw [updN_eq]; exact a6
          · rw [updN_ne e, hF3 127 j (by omega)]; exact hM j hj
        · rw [a2 0 6 (by omega), ← hM2, setI_eq]
        · exact HK_F (fun j => hF3 _ _ (by omega)) (hF3 _ _ (by omega)) (hF3 _ _ (by omega)) y3
        · by_cases e : t = hc
          · subst e
            have hk1 := l5 ok
            have e1 : hrs (insT T t (tl, tx)) (t + 1) = (pAll tx tl).2.2.1 := by
              unfold hrs
              rw [if_neg (by omega), Nat.add_sub_cancel, insT_eq]
            have e2 : sfn (insT T t (tl, tx)) (t + 1) = (pAll tx tl).2.2.2 := by
              unfold sfn
              rw [if_neg (by omega), Nat.add_sub_cancel, insT_eq]
            rw [e1, e2]
            have g : ∀ c j, c = 90 + 4 * t ∨ c = 90 + 4 * t + 1 → M3.1 c j = M1.1 c j := by
              intro c j q
              rw [a2 c j (by omega), ← hM2, setI_nk (by omega), setI_nk (by omega), setI_nk (by omega)]
            exact HK_F (fun j => g _ _ (Or.inr rfl)) (g _ _ (Or.inl rfl)) (g _ _ (Or.inl rfl)) hk1
          · have e1 : hrs (insT T hc (tl, tx)) (t + 1) = hrs T (t + 1) := by
              unfold hrs
              rw [if_neg (by omega), if_neg (by omega), Nat.add_sub_cancel, insT_ne e]
            have e2 : sfn (insT T hc (tl, tx)) (t + 1) = sfn T (t + 1) := by
              unfold sfn
              rw [if_neg (by omega), if_neg (by omega), Nat.add_sub_cancel, insT_ne e]
            rw [e1, e2]
            exact HK_F (fun j => hF3 _ _ (by omega)) (hF3 _ _ (by omega)) (hF3 _ _ (by omega)) (y4 t (by omega))
        · obtain ⟨k1, k2, k3⟩ := y5.1
          exact ⟨fun i hi => by rw [hF3 _ _ (by omega)]; exact k1 i hi, fun i hi => by rw [hF3 _ _ (by omega)]; exact k2 i hi, fun i hi => by rw [hF3 _ _ (by omega)]; exact k3 i hi⟩
        · by_cases e : t = hc
          · subst e
            rw [insT_eq]
            exact ⟨t3, a4, fun i hi => ⟨a3 i hi, (ht i hi).2.2⟩, ok.1, ok.2⟩
          · rw [insT_ne e]
            obtain ⟨z1, z2, z3, z4⟩ := y5.2.2 t (by omega)
            exact ⟨z1, by rw [hF3 132 t (by omega)]; exact z2, fun i hi => by rw [hF3 131 (100 * t + i) (by omega)]; exact z3 i hi, z4⟩
        · exact IM_mono (IM_F (hF3 0 2 (by omega)) (hF3 126 3 (by omega)) (fun c j q1 q2 => hF3 c j (by omega)) (fun j => hF3 129 j (by omega)) hI)
        · rw [a2 0 8 (by omega), ← hM2, setI_ne (by omega), setI_nk (by omega), setI_eq]
        · exact TN_F (hF3 85 2 (by omega)) (hF3 126 23 (by omega)) (fun c j q => hF3 c j (by omega)) hA
        · exact TP_F (fun c j q => hF3 c j (by omega)) (by rw [b1, ← hM2]; exact l2) hP
    · rw [if_neg ok] at l1
      have okB : ((pAll tx tl).1 && decide ((pAll tx tl).2.1 = tl)) = false := by
        cases hb : (pAll tx tl).1
        · rfl
        · rw [decide_eq_false (fun q => ok ⟨hb, q⟩)]; rfl
      have hne := nn1 (j := (pAll tx tl).2.1) (by omega)
      have hF2 : ∀ c j, c ≠ 90 + 4 * hc → c ≠ 90 + 4 * hc + 1 → ¬ (c = 0 ∧ j = 8) → (setI M1 0 8 (nI 0)).1 c j = M.1 c j := by
        intro c j q1 q2 q3
        rw [setI_at, if_neg q3]
        exact l4 c j q1 q2
      have hkt : KT (setI M1 0 8 (nI 0)) := by
        obtain ⟨k1, k2, k3⟩ := y5.1
        exact ⟨fun i hi => by rw [hF2 _ _ (by omega) (by omega) (by omega)]; exact k1 i hi, fun i hi => by rw [hF2 _ _ (by omega) (by omega) (by omega)]; exact k2 i hi, fun i hi => by rw [hF2 _ _ (by omega) (by omega) (by omega)]; exact k3 i hi⟩
      obtain ⟨M3, b1, b2, b3, _⟩ := m_house (z := z) N hN (M := setI M1 0 8 (nI 0)) (n := tl) (k := hc) (tx := tx) t3 (by omega) (by rw [hF2 126 5 (by omega) (by omega) (by omega)]; exact t2) (by rw [hF2 126 8 (by omega) (by omega) (by omega)]; exact y2) hkt (fun i hi => by rw [hF2 130 i (by omega) (by omega) (by omega)]; exact (ht i hi).2)
      obtain ⟨a1, a2⟩ := b3 okB
      refine ⟨-nI 10 - nI (pAll tx tl).2.1, setI M1 0 8 (nI 0), M3, ?_, a1, R, T, hc, ?_⟩
      · show fX11_house N (enc z M) z = _
        rw [fX11_house]; simp only [lit]
        simp (disch := omega) only [↓znm_, ↓reduceIte, rn0, rn1, rbI, nle_t, nle_f, nlt_t, nlt_f, neq_t, neq_f, x_add, x_mul, x_sub, x_div, ↓x_rem, x_remN, setI_eq, setI_ne, setI_nk, setI_2, bn0, bn1, reduceCtorEq, ↓O0b, ↓G0_0b, ↓G0_1b, ↓G0_2b, ↓P0_2b, ↓G0_3b, ↓G0_4b, ↓G0_5b, ↓G0_6b, ↓P0_6b, ↓G0_7b, ↓G0_8b, ↓P0_8b, ↓G0_9b, ↓G0_10b, ↓G0_11b, ↓G0_12b, ↓O1b, ↓G1_0b, ↓P1_0b, ↓G1_1b, ↓G1_2b, ↓G1_3b, ↓G1_4b, ↓G1_5b, ↓P1_5b, ↓G1_6b, ↓G1_7b, ↓G1_8b, ↓G1_9b, ↓P1_9b, ↓G1_10b, ↓G1_11b, ↓P1_11b, ↓G1_12b, ↓P1_12b, ↓G1_13b, ↓P1_13b, ↓G1_14b, ↓P1_14b, ↓G1_15b, ↓G1_16b, ↓P1_16b, ↓G1_17b, ↓G1_18b, ↓P1_18b, ↓G1_19b, ↓O85b, ↓G85_0b, ↓P85_0b, ↓G85_1b, ↓P85_1b, ↓G85_2b, ↓P85_2b, ↓G85_3b, ↓A2b, ↓S2b, ↓N2b, ↓A3b, ↓S3b, ↓N3b, ↓A4b, ↓S4b, ↓N4b, ↓A5b, ↓A5m, ↓A5p, ↓A5mp, ↓A5pm, ↓A5pmp, ↓A5mpp, ↓A5pp, ↓S5b, ↓S5m, ↓S5p, ↓S5mp, ↓S5pm, ↓S5pmp, ↓S5mpp, ↓S5pp, ↓N5b, ↓A6b, ↓S6b, ↓N6b, ↓A7b, ↓S7b, ↓N7b, ↓A8b, ↓S8b, ↓N8b, ↓A9b, ↓S9b, ↓N9b, ↓A84b, ↓S84b, ↓N84b, ↓A86b, ↓S86b, ↓N86b, ↓A88b, ↓S88b, ↓N88b, ↓A89b, ↓S89b, ↓N89b, ↓R10b, ↓R16b, ↓R27b, ↓R83b, ↓R87b, ↓R71b, ↓P0_2n, A2b, S2b, A3b, S3b, A4b, S4b, A5b, S5b, A6b, S6b, A7b, S7b, A8b, S8b, A9b, S9b, A84b, S84b, A86b, S86b, A88b, S88b, A89b, S89b, R10b, R16b, R27b, R83b, R87b, R71b, y1, t1, ↓HOb' hk, ↓zc l1, hne]
      · refine IV_T h0 (by rw [b1]; exact l2) (fun c j q => ?_) ⟨0, ?_, b2, by omega, fun i hi => by omega⟩
        · rw [a2 c j (by omega)]; exact hF2 c j (by omega) (by omega) (by omega)
        · rw [a2 0 8 (by omega), setI_eq]
end
