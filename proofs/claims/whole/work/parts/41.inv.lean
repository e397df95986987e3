/-! The invariant -/
def outsN (R : Nat → Nat) : Nat := mkN (fun f => decide (R (66 + 2 * f + 1) = 1)) 5
def CR (M : PM) (b : Nat) (R : Nat → Nat) : Prop :=
  M.1 b 0 = nI (R 76) ∧ (∀ p, p < 6 → M.1 (b + 1) p = nI (R (7 * p)) ∧ M.1 (b + 2) p = nI (R (7 * p + 1)) ∧ M.1 (b + 3) p = nI (R (7 * p + 2))) ∧
  (∀ p, p < 6 → ∀ q, q < 4 → M.1 (b + 4) (p * 4 + q) = nI (R (7 * p + 3 + q))) ∧
  M.1 b 5 = nI (R 77) ∧ (∀ i, i < 8 → M.1 (b + 5) i = nI (R (42 + 3 * i)) ∧ M.1 (b + 6) i = nI (R (42 + 3 * i + 1)) ∧ M.1 (b + 7) i = nI (R (42 + 3 * i + 2))) ∧
  M.1 b 9 = nI (R 78) ∧ (∀ f, f < 5 → M.1 (b + 8) f = nI (R (66 + 2 * f))) ∧ M.1 b 11 = nI (outsN R) ∧
  M.1 b 12 = nI (R 79) ∧ M.1 b 13 = hdI (R 80) ∧
  M.1 b 14 = nI (R 81) ∧ (∀ r, r < 5 → ∀ c, c < 4 → M.1 (b + 10 + r) c = nI (R (82 + 4 * r + c))) ∧
  M.1 b 16 = nI (R 102) ∧ (∀ r, r < 10 → ∀ c, c < 2 → M.1 (b + 16 + r) c = nI (R (103 + 2 * r + c))) ∧
  M.1 b 18 = nI (R 123) ∧ ∀ r, r < 8 → ∀ c, c < 2 → M.1 (b + 27 + r) c = nI (R (124 + 2 * r + c))
def WF (R : Nat → Nat) (hc : Nat) : Prop :=
  R 76 ≤ 6 ∧ R 77 ≤ 8 ∧ R 78 ≤ 5 ∧ R 79 ≤ 9999 ∧ R 80 ≤ hc ∧ R 81 ≤ 5 ∧ R 102 ≤ 10 ∧ R 123 ≤ 8 ∧
  (∀ p, p < 6 → R (7 * p) ≤ 6 ∧ R (7 * p + 1) < 10 ∧ R (7 * p + 2) < 256 ∧ ∀ q, q < 4 → R (7 * p + 3 + q) < 10) ∧
  (∀ i, i < R 77 → R (42 + 3 * i) < R 76 ∧ R (42 + 3 * i + 1) < 256 ∧ R (42 + 3 * i + 2) ≤ 20) ∧
  (∀ f, f < 5 → R (66 + 2 * f) < 256 ∧ R (66 + 2 * f + 1) ≤ 1 ∧ (R 78 ≤ f → R (66 + 2 * f + 1) = 0)) ∧
  (∀ r, r < R 81 → R (82 + 4 * r) < R 76 ∧ R (82 + 4 * r + 1) < 8 ∧ R (82 + 4 * r + 2) ≤ 20 ∧ R (82 + 4 * r + 3) ≤ 1) ∧
  (∀ r, r < R 102 → R (103 + 2 * r) = 0 ∨ (R (103 + 2 * r) = 1 ∧ R (103 + 2 * r + 1) < 2147483648 ∧ R (103 + 2 * r + 1) / 10 < R 76 ∧ R (103 + 2 * r + 1) % 10 < 8) ∨ (R (103 + 2 * r) = 2 ∧ R (103 + 2 * r + 1) < R 76)) ∧
  ∀ r, r < R 123 → R (124 + 2 * r) < R 76 ∧ R (124 + 2 * r + 1) < 256
/-- the houses on both sides -/
def HH (M : PM) (T : TT) (hc : Nat) : Prop := M.1 0 6 = nI hc ∧ M.1 126 8 = nI hc ∧ HK M 79 6 (fun _ => nI 1) ∧ (∀ t, t < hc → HK M (90 + 4 * t) (hrs T (t + 1)) (sfn T (t + 1))) ∧ HT M T hc
/-- the image -/
def IM (M : PM) (hc : Nat) : Prop := ∃ img, M.1 0 2 = bI img ∧ M.1 126 3 = bI img ∧ (img = true → ∃ Rt, CR M 36 Rt ∧ (∀ j, j < 140 → M.1 129 j = nI (Rt j)) ∧ WF Rt hc)
/-- the text that is fed -/
def TX (M : PM) : Prop := ∃ tl, M.1 0 8 = nI tl ∧ M.1 126 5 = nI tl ∧ tl ≤ 100 ∧ ∀ i, i < tl → ∃ x, x < 128 ∧ M.1 84 i = nI x ∧ M.1 130 i = nI x
def abv : List Int32 := [-1, 0, 0, 0, 1, 2, 3]
def bds : List Nat := [10, 11, 12, 0, 20, 0, 30, 0, 0, 0, 0, 40, 50, 51, 0, 0, 0, 60, 71, 70, 0]
/-- the acts -/
def TN_ (M : PM) : Prop := (∃ ran, M.1 85 2 = nI ran ∧ M.1 126 23 = nI ran ∧ ran ≤ 100) ∧ (∀ i, i < 20 → M.1 86 i = M.1 140 i) ∧ (∀ i, i < 7 → M.1 138 i = abv.getD i 0) ∧ ∀ i, i < 21 → M.1 139 i = nI (bds.getD i 0)
/-- the tapes -/
def TP (M : PM) : Prop := ∀ t, t < 6 → M.1 (114 + 2 * t) 0 = M.1 141 t ∧ (M.1 141 t = -nI 1 ∨ ∃ s, s < 5 ∧ M.1 141 t = nI s) ∧ (∃ sz, sz ≤ 60 ∧ M.1 (114 + 2 * t) 1 = nI sz ∧ M.1 142 t = nI sz ∧ (M.1 141 t = -nI 1 → sz = 0)) ∧ ∀ j, j < 60 → M.2.1 (114 + 2 * t + 1) j = M.2.1 143 (60 * t + j)
def IV (M : PM) (R : Nat → Nat) (T : TT) (hc : Nat) : Prop := CR M 1 R ∧ MR M R ∧ WF R hc ∧ HH M T hc ∧ IM M hc ∧ TX M ∧ TN_ M ∧ TP M
theorem CR_F {M M' : PM} {b : Nat} {R : Nat → Nat} (hF : ∀ c j, b ≤ c → c < b + 35 → M'.1 c j = M.1 c j) (h : CR M b R) : CR M' b R := by
  obtain ⟨h1, h2, h3, h4, h5, h6, h7, h8, h9, h10, h11, h12, h13, h14, h15, h16⟩ := h
  refine ⟨by rw [hF _ _ (by omega) (by omega)]; exact h1, fun p hp => by rw [hF _ _ (by omega) (by omega), hF _ _ (by omega) (by omega), hF _ _ (by omega) (by omega)]; exact h2 p hp, fun p hp q hq => by rw [hF _ _ (by omega) (by omega)]; exact h3 p hp q hq, by rw [hF _ _ (by omega) (by omega)]; exact h4, fun p hp => by rw [hF _ _ (by omega) (by omega), hF _ _ (by omega) (by omega), hF _ _ (by omega) (by omega)]; exact h5 p hp, by rw [hF _ _ (by omega) (by omega)]; exact h6, fun p hp => by rw [hF _ _ (by omega) (by omega)]; exact h7 p hp, by rw [hF _ _ (by omega) (by omega)]; exact h8, by rw [hF _ _ (by omega) (by omega)]; exact h9, by rw [hF _ _ (by omega) (by omega)]; exact h10, by rw [hF _ _ (by omega) (by omega)]; exact h11, fun r hr c hc => by rw [hF _ _ (by omega) (by omega)]; exact h12 r hr c hc, by rw [hF _ _ (by omega) (by omega)]; exact h13, fun r hr c hc => by rw [hF _ _ (by omega) (by omega)]; exact h14 r hr c hc, by rw [hF _ _ (by omega) (by omega)]; exact h15, fun r hr c hc => by rw [hF _ _ (by omega) (by omega)]; exact h16 r hr c hc⟩
theorem HK_F {M M' : PM} {k h : Nat} {S : SF} (hF : ∀ j, M'.1 (k + 1) j = M.1 (k + 1) j) (h2 : M'.1 k 2 = M.1 k 2) (h0 : M'.1 k 0 = M.1 k 0) (hH : HK M k h S) : HK M' k h S := by
  obtain ⟨L, a1, a2, a3⟩ := hH
  exact ⟨L, ⟨a1.1, by rw [h2]; exact a1.2.1, fun i hi => by rw [hF]; exact a1.2.2.1 i hi, a1.2.2.2⟩, a2, by rw [h0]; exact a3⟩
/-- everything but scratch, the household now and the model's row -/
def FU (M M' : PM) : Prop := M'.2.1 = M.2.1 ∧ ∀ c j, ¬ ((1 ≤ c ∧ c < 36) ∨ c = 127 ∨ c = 128 ∨ c = 133 ∨ c = 134 ∨ (c = 126 ∧ 10 ≤ j ∧ j ≤ 15) ∨ c = 88 ∨ c = 89 ∨ c = 81 ∨ (c = 79 ∧ j = 4) ∨ (90 ≤ c ∧ c < 114 ∧ ((c - 90) % 4 = 2 ∨ ((c - 90) % 4 = 0 ∧ j = 4)))) → M'.1 c j = M.1 c j
theorem FU_refl {M : PM} : FU M M := ⟨rfl, fun _ _ _ => rfl⟩
theorem FU_trans {M M' M'' : PM} (h : FU M M') (h' : FU M' M'') : FU M M'' := ⟨h'.1.trans h.1, fun c j q => (h'.2 c j q).trans (h.2 c j q)⟩
theorem FU_Q {M M' : PM} (h : FQ M M') : FU M M' := ⟨by rw [h.1], fun c j q => h.2 c j (by omega)⟩
theorem FU_S {a : Nat} {M M' : PM} (ha : a = 4 ∨ a = 89) (h : FS a M M') : FU M M' := ⟨by rw [h.1], fun c j q => h.2 c j (by omega)⟩
theorem FU_M {M M' : PM} (h : FM M M') : FU M M' := ⟨by rw [h.1], fun c j q => h.2 c j (by omega)⟩
theorem FU_7 {M M' : PM} (h : F7 M M') : FU M M' := ⟨by rw [h.1], fun c j q => h.2 c j (by omega)⟩
theorem FU_set {M : PM} {c j : Nat} {v : Int32} (hc : (1 ≤ c ∧ c < 36) ∨ c = 127 ∨ c = 89) : FU M (setI M c j v) := ⟨rfl, fun a i h => setI_nk (by omega)⟩
theorem HH_U {M M' : PM} {T : TT} {hc : Nat} (hF : FU M M') (h : HH M T hc) : HH M' T hc := by
  obtain ⟨h1, h2, h3, h4, h5⟩ := h
  have h6 := h5.2.1
  refine ⟨by rw [hF.2 _ _ (by omega)]; exact h1, by rw [hF.2 _ _ (by omega)]; exact h2, HK_F (fun j => hF.2 _ _ (by omega)) (hF.2 _ _ (by omega)) (hF.2 _ _ (by omega)) h3, fun t ht => HK_F (fun j => hF.2 _ _ (by omega)) (hF.2 _ _ (by omega)) (hF.2 _ _ (by omega)) (h4 t ht), HT_e (fun c j q => hF.2 _ _ (by omega)) h5⟩
theorem IM_F {M M' : PM} {hc : Nat} (h0 : M'.1 0 2 = M.1 0 2) (h1 : M'.1 126 3 = M.1 126 3) (h2 : ∀ c j, 36 ≤ c → c < 71 → M'.1 c j = M.1 c j) (h3 : ∀ j, M'.1 129 j = M.1 129 j) (h : IM M hc) : IM M' hc := by
  obtain ⟨img, a1, a2, a3⟩ := h
  refine ⟨img, by rw [h0]; exact a1, by rw [h1]; exact a2, fun q => ?_⟩
  obtain ⟨Rt, b1, b2, b3⟩ := a3 q
  exact ⟨Rt, CR_F (fun c j q1 q2 => h2 c j (by omega) (by omega)) b1, fun j hj => by rw [h3]; exact b2 j hj, b3⟩
theorem TX_F {M M' : PM} (h0 : M'.1 0 8 = M.1 0 8) (h1 : M'.1 126 5 = M.1 126 5) (h2 : ∀ j, M'.1 84 j = M.1 84 j) (h3 : ∀ j, M'.1 130 j = M.1 130 j) (h : TX M) : TX M' := by
  obtain ⟨tl, a1, a2, a3, a4⟩ := h
  exact ⟨tl, by rw [h0]; exact a1, by rw [h1]; exact a2, a3, fun i hi => by rw [h2, h3]; exact a4 i hi⟩
theorem TN_F {M M' : PM} (h0 : M'.1 85 2 = M.1 85 2) (h1 : M'.1 126 23 = M.1 126 23) (h2 : ∀ c j, c = 86 ∨ c = 138 ∨ c = 139 ∨ c = 140 → M'.1 c j = M.1 c j) (h : TN_ M) : TN_ M' := by
  obtain ⟨⟨ran, a1, a2, a3⟩, a4, a5, a6⟩ := h
  exact ⟨⟨ran, by rw [h0]; exact a1, by rw [h1]; exact a2, a3⟩, fun i hi => by rw [h2 _ _ (by omega), h2 _ _ (by omega)]; exact a4 i hi, fun i hi => by rw [h2 _ _ (by omega)]; exact a5 i hi, fun i hi => by rw [h2 _ _ (by omega)]; exact a6 i hi⟩
theorem TP_F {M M' : PM} (h2 : ∀ c j, 114 ≤ c ∧ c < 126 ∨ c = 141 ∨ c = 142 → M'.1 c j = M.1 c j) (h3 : M'.2.1 = M.2.1) (h : TP M) : TP M' := by
  intro t ht
  obtain ⟨a1, a2, a3, a4⟩ := h t ht
  rw [h3, h2 (114 + 2 * t) 0 (by omega), h2 (114 + 2 * t) 1 (by omega), h2 141 t (by omega), h2 142 t (by omega)]
  exact ⟨a1, a2, a3, a4⟩
theorem IV_U {M M' : PM} {R R' : Nat → Nat} {T : TT} {hc : Nat} (h : IV M R T hc) (hF : FU M M') (hC : CR M' 1 R') (hM : MR M' R') (hW : WF R' hc) : IV M' R' T hc := by
  obtain ⟨_, _, _, h4, h5, h6, h7, h8⟩ := h
  exact ⟨hC, hM, hW, HH_U hF h4, IM_F (hF.2 _ _ (by omega)) (hF.2 _ _ (by omega)) (fun c j q1 q2 => hF.2 _ _ (by omega)) (fun j => hF.2 _ _ (by omega)) h5, TX_F (hF.2 _ _ (by omega)) (hF.2 _ _ (by omega)) (fun j => hF.2 _ _ (by omega)) (fun j => hF.2 _ _ (by omega)) h6, TN_F (hF.2 _ _ (by omega)) (hF.2 _ _ (by omega)) (fun c j q => hF.2 _ _ (by omega)) h7, TP_F (fun c j q => hF.2 _ _ (by omega)) hF.1 h8⟩
/-- after a question: the class used its scratch, the model its own -/
theorem IV_Q {M M1 M2 : PM} {R : Nat → Nat} {T : TT} {hc : Nat} (h : IV M R T hc) (h1 : FS 89 M M1) (h2 : FM M1 M2) : IV M2 R T hc := by
  have hF := FU_trans (FU_S (Or.inr rfl) h1) (FU_M h2)
  refine IV_U h hF (CR_F (fun c j q1 q2 => ?_) h.1) (fun j hj => ?_) h.2.2.1
  · rw [h2.2 c j (by omega), h1.2 c j (by omega)]
  · rw [h2.2 127 j (by omega), h1.2 127 j (by omega)]; exact h.2.1 j hj
theorem IV_KR {M : PM} {R : Nat → Nat} {T : TT} {hc : Nat} (h : IV M R T hc) : KR M R T hc := by
  obtain ⟨h1, h2, h3, h4, _⟩ := h
  have hp := h3.2.2.2.2.2.2.2.2.1
  exact ⟨h1.1, h3.1, h1.2.2.2.2.2.2.2.2.2.1, h3.2.2.2.2.1, h4.1, h4.2.2.2.2.2.1, fun p q => ⟨(h1.2.1 p q).1, (hp p q).1⟩, fun p q r s => h1.2.2.1 p q r s, h4.2.2.1, h4.2.2.2.1⟩
theorem IV_v {M : PM} {R : Nat → Nat} {T : TT} {hc : Nat} (h : IV M R T hc) : ∀ p, p < 6 → M.1 3 p = nI (R (7 * p + 1)) ∧ R (7 * p + 1) < 10 := fun p hp => ⟨(h.1.2.1 p hp).2.1, (h.2.2.1.2.2.2.2.2.2.2.2.1 p hp).2.1⟩
theorem WF_W0 {R : Nat → Nat} {hc : Nat} (h : WF R hc) : W0 R hc := ⟨h.1, h.2.2.2.2.1, fun p hp => ⟨(h.2.2.2.2.2.2.2.2.1 p hp).1, (h.2.2.2.2.2.2.2.2.1 p hp).2.1⟩⟩
/-- the model's part of the invariant, for its questions -/
theorem IV_M {M M1 : PM} {R : Nat → Nat} {T : TT} {hc : Nat} (h : IV M R T hc) (h1 : FS 89 M M1) : MR M1 R ∧ HT M1 T hc := ⟨fun j hj => by rw [h1.2 127 j (by omega)]; exact h.2.1 j hj, HT_e (fun c j q => h1.2 c j (by omega)) h.2.2.2.1.2.2.2.2⟩
