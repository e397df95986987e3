/-- the class's state for an act -/
def CZ (M : PM) (n i v : Nat) : Prop := M.1 85 2 = nI n ∧ M.1 85 0 = nI i ∧ M.1 85 1 = nI v
theorem CZ_ap {M : PM} {n i v : Nat} (h : CZ M n i v) (L : List Nat) : CZ (apC M n L) (n + L.length) i v := ⟨apC_n L M n h.1, by rw [apC_F _ _ _ _ _ (by omega)]; exact h.2.1, by rw [apC_F _ _ _ _ _ (by omega)]; exact h.2.2⟩
theorem CZ_bg {M : PM} {n b i v : Nat} (h : CZ M n i v) : CZ (bgC M n b) (n + 1) i v := CZ_ap h [b]
theorem KR_85 {M M' : PM} {R : Nat → Nat} {T : TT} {hc : Nat} (hF : ∀ c j, c ≠ 85 → M'.1 c j = M.1 c j) (h : KR M R T hc) : KR M' R T hc := by
  obtain ⟨h1, h2, h3, h4, h5, h6, h7, h8, h9, h10⟩ := h
  refine ⟨by rw [hF 1 0 (by omega)]; exact h1, h2, by rw [hF 1 13 (by omega)]; exact h3, h4, by rw [hF 0 6 (by omega)]; exact h5, h6, fun p hp => by rw [hF 2 p (by omega)]; exact h7 p hp, fun p hp q hq => by rw [hF 5 _ (by omega)]; exact h8 p hp q hq, HK_F (fun j => hF _ _ (by omega)) (hF _ _ (by omega)) (hF _ _ (by omega)) h9, fun t ht => HK_F (fun j => hF _ _ (by omega)) (hF _ _ (by omega)) (hF _ _ (by omega)) (h10 t ht)⟩
theorem IV_A {M M' : PM} {R : Nat → Nat} {T : TT} {hc : Nat} (h : IV M R T hc) (h2 : M'.2.1 = M.2.1) (hF : ∀ c j, ¬ (c = 85 ∨ c = 86 ∨ c = 140 ∨ (c = 126 ∧ j = 23)) → M'.1 c j = M.1 c j) (hN : TN_ M') : IV M' R T hc := by
  obtain ⟨a1, a2, a3, ⟨b1, b2, b3, b4, b5⟩, a5, a6, a7, a8⟩ := h
  have hc6 := b5.2.1
  exact ⟨CR_F (fun c j q1 q2 => hF c j (by omega)) a1, fun j hj => by rw [hF 127 j (by omega)]; exact a2 j hj, a3, ⟨by rw [hF 0 6 (by omega)]; exact b1, by rw [hF 126 8 (by omega)]; exact b2, HK_F (fun j => hF _ _ (by omega)) (hF _ _ (by omega)) (hF _ _ (by omega)) b3, fun t ht => HK_F (fun j => hF _ _ (by omega)) (hF _ _ (by omega)) (hF _ _ (by omega)) (b4 t ht), HT_e (fun c j q => hF c j (by omega)) b5⟩, IM_F (hF 0 2 (by omega)) (hF 126 3 (by omega)) (fun c j q1 q2 => hF c j (by omega)) (fun j => hF 129 j (by omega)) a5, TX_F (hF _ _ (by omega)) (hF _ _ (by omega)) (fun j => hF _ _ (by omega)) (fun j => hF _ _ (by omega)) a6, hN, TP_F (fun c j q => hF c j (by omega)) h2 a8⟩
section
variable {z : Nat} (N : Nat) {M : PM} {n i v k : Nat} {x : Int32}
theorem c_begin {b : Nat} (h : CZ M n i v) (hn : n < 20) : fX10_begin N (enc z M) (z + 85) (nI b) = some ((), enc z (bgC M n b)) := by
  have h1 := h.1
  unfold bgC
  rw [fX10_begin]; simp only [lit]; simp (disch := omega) only [↓znm_, ↓reduceIte, rn0, rn1, rbI, nle_t, nle_f, nlt_t, nlt_f, neq_t, neq_f, x_add, x_mul, x_sub, x_div, ↓x_rem, x_remN, setI_eq, setI_ne, setI_nk, setI_2, bn0, bn1, reduceCtorEq, ↓O0b, ↓G0_0b, ↓G0_1b, ↓G0_2b, ↓P0_2b, ↓G0_3b, ↓G0_4b, ↓G0_5b, ↓G0_6b, ↓P0_6b, ↓G0_7b, ↓G0_8b, ↓P0_8b, ↓G0_9b, ↓G0_10b, ↓G0_11b, ↓G0_12b, ↓O1b, ↓G1_0b, ↓P1_0b, ↓G1_1b, ↓G1_2b, ↓G1_3b, ↓G1_4b, ↓G1_5b, ↓P1_5b, ↓G1_6b, ↓G1_7b, ↓G1_8b, ↓G1_9b, ↓P1_9b, ↓G1_10b, ↓G1_11b, ↓P1_11b, ↓G1_12b, ↓P1_12b, ↓G1_13b, ↓P1_13b, ↓G1_14b, ↓P1_14b, ↓G1_15b, ↓G1_16b, ↓P1_16b, ↓G1_17b, ↓G1_18b, ↓P1_18b, ↓G1_19b, ↓O85b, ↓G85_0b, ↓P85_0b, ↓G85_1b, ↓P85_1b, ↓G85_2b, ↓P85_2b, ↓G85_3b, ↓A2b, ↓S2b, ↓N2b, ↓A3b, ↓S3b, ↓N3b, ↓A4b, ↓S4b, ↓N4b, ↓A5b, ↓A5m, ↓A5p, ↓A5mp, ↓A5pm, ↓A5pmp, ↓A5mpp, ↓A5pp, ↓S5b, ↓S5m, ↓S5p, ↓S5mp, ↓S5pm, ↓S5pmp, ↓S5mpp, ↓S5pp, ↓N5b, ↓A6b, ↓S6b, ↓N6b, ↓A7b, ↓S7b, ↓N7b, ↓A8b, ↓S8b, ↓N8b, ↓A9b, ↓S9b, ↓N9b, ↓A84b, ↓S84b, ↓N84b, ↓A86b, ↓S86b, ↓N86b, ↓A88b, ↓S88b, ↓N88b, ↓A89b, ↓S89b, ↓N89b, ↓R10b, ↓R16b, ↓R27b, ↓R83b, ↓R87b, ↓R71b, ↓P0_2n, A2b, S2b, A3b, S3b, A4b, S4b, A5b, S5b, A6b, S6b, A7b, S7b, A8b, S8b, A9b, S9b, A84b, S84b, A86b, S86b, A88b, S88b, A89b, S89b, R10b, R16b, R27b, R83b, R87b, R71b, h1]
theorem c_d7 {a : Nat} (h : CZ M n i v) (hn : n < 20) : fX7_dines N (enc z M) a (z + 85) x = some (x + nI i, enc z (apC M n [10])) := by
  have e1 := c_begin (z := z) (b := 10) N h hn
  have e2 := (CZ_bg (b := 10) h).2.1
  rw [fX7_dines]; simp only [lit]
  rw [O85b, zc e1, G85_0b, e2]
  rfl
theorem c_d0 (hk : k < 7) (h : CZ M n i v) (hn : n < 19) : fX0_dines N (enc z M) (z + (72 + k)) (z + 85) x = some (-(x + nI i), enc z (apC M n [50, 10])) := by
  have e1 := c_begin (z := z) (b := 50) N h (by omega)
  have e2 := c_d7 (z := z) (x := x) (a := z + (72 + k)) N (CZ_bg (b := 50) h) (by omega)
  rw [fX0_dines]; simp only [lit]
  rw [O85b, zc e1, bnd (mn_kind hk), zc e2]
  rfl
theorem c_d3 (hk : k < 7) (h : CZ M n i v) (hn : n < 19) : fX3_dines N (enc z M) (z + (72 + k)) (z + 85) x = some (x * nI 3 + nI i, enc z (apC M n [30, 10])) := by
  have e1 := c_begin (z := z) (b := 30) N h (by omega)
  have e2 := c_d7 (z := z) (x := x * nI 3) (a := z + (72 + k)) N (CZ_bg (b := 30) h) (by omega)
  rw [fX3_dines]; simp only [lit]
  rw [O85b, zc e1, bnd (mn_kind hk), zc e2]
  rfl
theorem c_d9 (hk : k < 7) (h : CZ M n i v) (hn : n < 19) : fX9_dines N (enc z M) (z + (72 + k)) (z + 85) x = some ((x + nI i) ^^^ nI v, enc z (apC M n [71, 10])) := by
  have e1 := c_begin (z := z) (b := 71) N h (by omega)
  have e2 := c_d7 (z := z) (x := x) (a := z + (72 + k)) N (CZ_bg (b := 71) h) (by omega)
  have e3 := (CZ_ap (CZ_bg (b := 71) h) [10]).2.2
  rw [fX9_dines]; simp only [lit]
  rw [O85b, zc e1, bnd (mn_kind hk), zc e2, G85_1b, e3]
  rfl
theorem c_dd (hk : k < 7) (h : CZ M n i v) (hn : n < 19) : ((zkind (enc z M) (z + (72 + k))).bind fun c => if c = 0 then fX0_dines N (enc z M) (z + (72 + k)) (z + 85) x else if c = 1 then fX7_dines N (enc z M) (z + (72 + k)) (z + 85) x else if c = 2 then fX3_dines N (enc z M) (z + (72 + k)) (z + 85) x else if c = 3 then fX3_dines N (enc z M) (z + (72 + k)) (z + 85) x else if c = 4 then fX7_dines N (enc z M) (z + (72 + k)) (z + 85) x else if c = 7 then fX7_dines N (enc z M) (z + (72 + k)) (z + 85) x else if c = 9 then fX9_dines N (enc z M) (z + (72 + k)) (z + 85) x else none) = some (dV k i v x, enc z (apC M n (dL k))) := by
  rw [bnd (mn_kind hk)]
  rcases (show k = 0 ∨ k = 1 ∨ k = 2 ∨ k = 3 ∨ k = 4 ∨ k = 5 ∨ k = 6 by omega) with rfl | rfl | rfl | rfl | rfl | rfl | rfl
  · exact c_d7 (a := z + (72 + 0)) N h (by omega)
  · exact c_d7 (a := z + (72 + 1)) N h (by omega)
  · exact c_d3 N hk h hn
  · exact c_d7 (a := z + (72 + 3)) N h (by omega)
  · exact c_d0 N hk h hn
  · exact c_d3 N hk h hn
  · exact c_d9 N hk h hn
theorem c_n7 (hk : k < 7) (h : CZ M n i v) (hn : n < 18) : fX7_nods N (enc z M) (z + (72 + k)) (z + 85) x = some (dV k i v x - nI v, enc z (apC M n (11 :: dL k))) := by
  have e1 := c_begin (z := z) (b := 11) N h (by omega)
  have e2 := c_dd (z := z) (x := x) N hk (CZ_bg (b := 11) h) (by omega)
  have e3 := (CZ_ap (CZ_bg (b := 11) h) (dL k)).2.2
  rw [fX7_nods]; simp only [lit]
  rw [O85b, zc e1, zc e2, G85_1b, e3]
  rfl
theorem c_n4 (hk : k < 7) (h : CZ M n i v) (hn : n < 17) : fX4_nods N (enc z M) (z + (72 + k)) (z + 85) x = some ((dV k i v x - nI v) ^^^ nI 6, enc z (apC M n (20 :: 11 :: dL k))) := by
  have e1 := c_begin (z := z) (b := 20) N h (by omega)
  have e2 := c_n7 (z := z) (x := x) N hk (CZ_bg (b := 20) h) (by omega)
  rw [fX4_nods]; simp only [lit]
  rw [O85b, zc e1, bnd (mn_kind hk), zc e2]
  rfl
theorem c_n0 (hk : k < 7) (h : CZ M n i v) (hn : n < 16) : fX0_nods N (enc z M) (z + (72 + k)) (z + 85) x = some ((dV k i v (x + nI 1) - nI v) ^^^ nI 6, enc z (apC M n (51 :: 20 :: 11 :: dL k))) := by
  have e1 := c_begin (z := z) (b := 51) N h (by omega)
  have e2 := c_n4 (z := z) (x := x + nI 1) N hk (CZ_bg (b := 51) h) (by omega)
  rw [fX0_nods]; simp only [lit]
  rw [O85b, zc e1, bnd (mn_kind hk), zc e2]
  rfl
theorem c_n9 (hk : k < 7) (h : CZ M n i v) (hn : n < 15) : fX9_nods N (enc z M) (z + (72 + k)) (z + 85) x = some ((dV k i v x - nI v) + (nI 2 + nI i), enc z (apC M n ((70 :: 11 :: dL k) ++ [10]))) := by
  have hl := dL_len k hk
  have e1 := c_begin (z := z) (b := 70) N h (by omega)
  have e2 := c_n7 (z := z) (x := x) N hk (CZ_bg (b := 70) h) (by omega)
  have h2 := CZ_ap h (70 :: 11 :: dL k)
  have e3 := c_d7 (z := z) (x := nI 2) (a := z + (72 + k)) N h2 (by show n + ((dL k).length + 1 + 1) < 20; omega)
  rw [apC_app] at e3
  have e2 : fX7_nods N (enc z (bgC M n 70)) (z + (72 + k)) (z + 85) x = some (dV k i v x - nI v, enc z (apC M n (70 :: 11 :: dL k))) := e2
  rw [fX9_nods]; simp only [lit]
  rw [O85b, zc e1, bnd (mn_kind hk), zc e2, bnd (mn_kind hk), zc e3]
theorem c_nd (hk : k < 7) (h : CZ M n i v) (hn : n < 15) : ((zkind (enc z M) (z + (72 + k))).bind fun c => if c = 0 then fX0_nods N (enc z M) (z + (72 + k)) (z + 85) x else if c = 1 then fX7_nods N (enc z M) (z + (72 + k)) (z + 85) x else if c = 2 then fX7_nods N (enc z M) (z + (72 + k)) (z + 85) x else if c = 3 then fX7_nods N (enc z M) (z + (72 + k)) (z + 85) x else if c = 4 then fX4_nods N (enc z M) (z + (72 + k)) (z + 85) x else if c = 7 then fX7_nods N (enc z M) (z + (72 + k)) (z + 85) x else if c = 9 then fX9_nods N (enc z M) (z + (72 + k)) (z + 85) x else none) = some (nV k k i v x, enc z (apC M n (nL_ k k))) := by
  rw [bnd (mn_kind hk)]
  rcases (show k = 0 ∨ k = 1 ∨ k = 2 ∨ k = 3 ∨ k = 4 ∨ k = 5 ∨ k = 6 by omega) with rfl | rfl | rfl | rfl | rfl | rfl | rfl
  · exact c_n7 N hk h (by omega)
  · exact c_n4 N hk h (by omega)
  · exact c_n7 N hk h (by omega)
  · exact c_n7 N hk h (by omega)
  · exact c_n0 N hk h (by omega)
  · exact c_n7 N hk h (by omega)
  · exact c_n9 N hk h hn
theorem c_t7 (hk : k < 7) (h : CZ M n i v) (hn : n < 14) : fX7_tells N (enc z M) (z + (72 + k)) (z + 85) x = some (nV k k i v x * nI 2, enc z (apC M n (12 :: nL_ k k))) := by
  have e1 := c_begin (z := z) (b := 12) N h (by omega)
  have e2 := c_nd (z := z) (x := x) N hk (CZ_bg (b := 12) h) (by omega)
  rw [fX7_tells]; simp only [lit]
  rw [O85b, zc e1, zc e2]
  rfl
theorem c_t2 (hk : k < 7) (h : CZ M n i v) (hn : n < 13) : fX2_tells N (enc z M) (z + (72 + k)) (z + 85) x = some (nV k k i v (x - nI i) * nI 2, enc z (apC M n (60 :: 12 :: nL_ k k))) := by
  have e1 := c_begin (z := z) (b := 60) N h (by omega)
  have e2 := c_t7 (z := z) (x := x - nI i) N hk (CZ_bg (b := 60) h) (by omega)
  have e3 := (CZ_bg (b := 60) h).2.1
  rw [fX2_tells]; simp only [lit]
  rw [O85b, zc e1, G85_0b, e3, bnd (mn_kind hk), zc e2]
  rfl
theorem c_t1 (hk : k = 3 ∨ k = 6) (h : CZ M n i v) (hn : n < 8) : fX1_tells N (enc z M) (z + (72 + k)) (z + 85) x = some (nV k k i v x * nI 2 + nV k k i v (nI 1), enc z (apC M n ((40 :: 12 :: nL_ k k) ++ nL_ k k))) := by
  have hk7 : k < 7 := by omega
  have hl := nL_len k hk7 k hk7
  have e1 := c_begin (z := z) (b := 40) N h (by omega)
  have e2 := c_t7 (z := z) (x := x) N hk7 (CZ_bg (b := 40) h) (by omega)
  have h2 := CZ_ap h (40 :: 12 :: nL_ k k)
  have hb : n + (40 :: 12 :: nL_ k k).length < 15 := by show n + ((nL_ k k).length + 1 + 1) < 15; omega
  have e3 : ((zkind (enc z (apC M n (40 :: 12 :: nL_ k k))) (z + (72 + k))).bind fun c => if c = 1 then fX7_nods N (enc z (apC M n (40 :: 12 :: nL_ k k))) (z + (72 + k)) (z + 85) (nI 1) else if c = 9 then fX9_nods N (enc z (apC M n (40 :: 12 :: nL_ k k))) (z + (72 + k)) (z + 85) (nI 1) else none) = some (nV k k i v (nI 1), enc z (apC M n ((40 :: 12 :: nL_ k k) ++ nL_ k k))) := by
    rw [← apC_app, bnd (mn_kind hk7)]
    rcases hk with rfl | rfl
    · exact c_n7 N hk7 h2 (by omega)
    · exact c_n9 N hk7 h2 hb
  have e2 : fX7_tells N (enc z (bgC M n 40)) (z + (72 + k)) (z + 85) x = some (nV k k i v x * nI 2, enc z (apC M n (40 :: 12 :: nL_ k k))) := e2
  rw [fX1_tells]; simp only [lit]
  rw [O85b, zc e1, bnd (mn_kind hk7), zc e2, zc e3]
theorem c_td (hk : k < 7) (h : CZ M n i v) (hn : n < 8) : ((zkind (enc z M) (z + (72 + k))).bind fun c => if c = 0 then fX7_tells N (enc z M) (z + (72 + k)) (z + 85) x else if c = 1 then fX1_tells N (enc z M) (z + (72 + k)) (z + 85) x else if c = 2 then fX2_tells N (enc z M) (z + (72 + k)) (z + 85) x else if c = 3 then fX7_tells N (enc z M) (z + (72 + k)) (z + 85) x else if c = 4 then fX7_tells N (enc z M) (z + (72 + k)) (z + 85) x else if c = 7 then fX7_tells N (enc z M) (z + (72 + k)) (z + 85) x else if c = 9 then fX1_tells N (enc z M) (z + (72 + k)) (z + 85) x else none) = some (tV k k i v x, enc z (apC M n (tL_ k k))) := by
  rw [bnd (mn_kind hk)]
  rcases (show k = 0 ∨ k = 1 ∨ k = 2 ∨ k = 3 ∨ k = 4 ∨ k = 5 ∨ k = 6 by omega) with rfl | rfl | rfl | rfl | rfl | rfl | rfl
  · exact c_t7 N hk h (by omega)
  · exact c_t7 N hk h (by omega)
  · exact c_t7 N hk h (by omega)
  · exact c_t1 N (Or.inl rfl) h hn
  · exact c_t7 N hk h (by omega)
  · exact c_t2 N hk h (by omega)
  · exact c_t1 N (Or.inr rfl) h hn
end
section
variable {z : Nat} (N : Nat) {M : PM} {R : Nat → Nat} {T : TT} {hc : Nat}
theorem ac_end (h : IV M R T hc) {p v : Nat} {L : List Nat} (hL : L.length ≤ 12) {Mx : PM} (h1 : Mx.1 85 2 = nI 0) (h2 : Mx.2 = M.2) (hF : ∀ c j, c ≠ 85 → Mx.1 c j = M.1 c j) : IV (apM (setI (apC Mx 0 L) 126 23 (nI 0)) 0 L) R T hc := by
  obtain ⟨_, a4, a5, a6⟩ := h.2.2.2.2.2.2.1
  have g : ∀ c j, ¬ (c = 85 ∨ c = 86 ∨ c = 140 ∨ (c = 126 ∧ j = 23)) → (apM (setI (apC Mx 0 L) 126 23 (nI 0)) 0 L).1 c j = M.1 c j := by
    intro c j q
    rw [apM_F _ _ _ _ _ (by omega), setI_at, if_neg (by omega), apC_F _ _ _ _ _ (by omega), hF c j (by omega)]
  refine IV_A h ?_ g ⟨⟨0 + L.length, ?_, ?_, by omega⟩, fun i hi => ?_, fun i hi => by rw [g 138 i (by omega)]; exact a5 i hi, fun i hi => by rw [g 139 i (by omega)]; exact a6 i hi⟩
  · rw [(ap_2 L _ 0).2, setI_2, (ap_2 L _ 0).1, h2]
  · rw [apM_F _ _ _ _ _ (by omega), setI_nk (by omega)]; exact apC_n L Mx 0 h1
  · exact apM_n L _ 0 setI_eq
  · rw [apM_F _ _ _ 86 _ (by omega), setI_nk (by omega)]
    refine ap_row L Mx _ 0 i ?_
    rw [setI_nk (by omega), apC_F _ _ _ _ _ (by omega), hF 86 i (by omega), hF 140 i (by omega)]
    exact a4 i hi
theorem ac_AM (h : IV M R T hc) {L : List Nat} {Mx : PM} (hF : ∀ c j, c ≠ 85 → Mx.1 c j = M.1 c j) : AM (setI (apC Mx 0 L) 126 23 (nI 0)) 0 R := by
  obtain ⟨_, a4, a5, a6⟩ := h.2.2.2.2.2.2.1
  have g : ∀ c j, ¬ (c = 85 ∨ c = 86 ∨ (c = 126 ∧ j = 23)) → (setI (apC Mx 0 L) 126 23 (nI 0)).1 c j = M.1 c j := by
    intro c j q
    rw [setI_at, if_neg (by omega), apC_F _ _ _ _ _ (by omega), hF c j (by omega)]
  exact ⟨setI_eq, fun j hj => by rw [g 127 j (by omega)]; exact h.2.1 j hj, fun j hj => by rw [g 138 j (by omega)]; exact a5 j hj, fun j hj => by rw [g 139 j (by omega)]; exact a6 j hj⟩
set_option maxHeartbeats 4000000 in
theorem s_act (hN : 300 ≤ N) (h : IV M R T hc) (x1 x2 x3 : Int32) : ST z (fun h => fX11_act N h z x1 x2 x3) (fun h => fX12_act N h (z + 126) x1 x2 x3) M := by
  have h0 := h
  obtain ⟨hC, hM, hW, hH, _⟩ := h
  have h6 := hW.1
  have ecl : fX10_clear N (enc z M) (z + 85) = some ((), enc z (setI M 85 2 (nI 0))) := by
    rw [fX10_clear]; simp only [lit]; rw [P85_2b]
  have c1 : (setI M 85 2 (nI 0)).1 1 0 = nI (R 76) := by rw [setI_nk (by omega)]; exact hC.1
  have e1 := c_hasx (z := z) (M := setI M 85 2 (nI 0)) N (R := R) c1 h6 x1
  have hF0 : ∀ c j, c ≠ 85 → (setI M 85 2 (nI 0)).1 c j = M.1 c j := fun c j q => setI_nk q
  have fail : ∀ y1 y2 y3 : Int32, fX11_act N (enc z M) z y1 y2 y3 = some (nI 0, enc z (setI M 85 2 (nI 0))) → fX12_act N (enc z (setI M 85 2 (nI 0))) (z + 126) y1 y2 y3 = some (nI 0, enc z (setI (setI M 85 2 (nI 0)) 126 23 (nI 0))) → ST z (fun h => fX11_act N h z y1 y2 y3) (fun h => fX12_act N h (z + 126) y1 y2 y3) M := fun y1 y2 y3 k1 k2 => ⟨nI 0, _, _, k1, k2, R, T, hc, ac_end h0 (p := 0) (v := 0) (L := []) (by decide) setI_eq rfl hF0⟩
  have hm : MR (setI (setI M 85 2 (nI 0)) 126 23 (nI 0)) R := fun j hj => by rw [setI_nk (by omega), setI_nk (by omega)]; exact hM j hj
  have e3 := m_isM (z := z) N hm h6 x1
  have e5 := m_in N (h := enc z (setI (setI M 85 2 (nI 0)) 126 23 (nI 0))) (x := x2) (n := 2) (by omega)
  rcases inR_c x1 (n := R 76) (by omega) with q1 | ⟨p, hp, rfl, q1⟩
  · rw [q1] at e1 e3
    refine fail _ _ _ ?_ ?_
    · rw [fX11_act]; simp only [lit]
      rw [G0_9b, O85b, zc ecl, G0_0b, O1b, zc e1]
      simp (disch := omega) only [↓znm_, ↓reduceIte, rn0, rn1, rbI, nle_t, nle_f, nlt_t, nlt_f, neq_t, neq_f, x_add, x_mul, x_sub, x_div, ↓x_rem, x_remN, setI_eq, setI_ne, setI_nk, setI_2, bn0, bn1, reduceCtorEq]
    · rw [fX12_act]; simp only [lit]
      rw [P126_23b, O126b, zc e3]
      simp (disch := omega) only [↓znm_, ↓reduceIte, rn0, rn1, rbI, nle_t, nle_f, nlt_t, nlt_f, neq_t, neq_f, x_add, x_mul, x_sub, x_div, ↓x_rem, x_remN, setI_eq, setI_ne, setI_nk, setI_2, bn0, bn1, reduceCtorEq]
  rw [q1] at e1 e3
  rcases inR_c x2 (n := 3) (by omega) with q2 | ⟨a, ha, rfl, q2⟩
  · rw [q2] at e5
    refine fail _ _ _ ?_ ?_
    · rw [fX11_act]; simp only [lit]
      rw [G0_9b, O85b, zc ecl, G0_0b, O1b, zc e1]
      rcases inR_f q2 with w | ⟨w1, w2⟩
      · simp (disch := omega) only [↓znm_, ↓reduceIte, rn0, rn1, rbI, nle_t, nle_f, nlt_t, nlt_f, neq_t, neq_f, x_add, x_mul, x_sub, x_div, ↓x_rem, x_remN, setI_eq, setI_ne, setI_nk, setI_2, bn0, bn1, reduceCtorEq, w]
      · simp (disch := omega) only [↓znm_, ↓reduceIte, rn0, rn1, rbI, nle_t, nle_f, nlt_t, nlt_f, neq_t, neq_f, x_add, x_mul, x_sub, x_div, ↓x_rem, x_remN, setI_eq, setI_ne, setI_nk, setI_2, bn0, bn1, reduceCtorEq, w1, (ge_f w2 (by omega)).2.1]
    · rw [fX12_act]; simp only [lit]
      rw [P126_23b, O126b, zc e3]
      simp (disch := omega) only [↓znm_, ↓reduceIte, rn0, rn1, rbI, nle_t, nle_f, nlt_t, nlt_f, neq_t, neq_f, x_add, x_mul, x_sub, x_div, ↓x_rem, x_remN, setI_eq, setI_ne, setI_nk, setI_2, bn0, bn1, reduceCtorEq, ↓zc e5]
  have hk : R (7 * p) < 7 := by have := (hW.2.2.2.2.2.2.2.2.1 p (by omega)).1; omega
  have hv : M.1 3 p = nI (R (7 * p + 1)) := (IV_v h0 p (by omega)).1
  generalize hMx : setI (setI (setI M 85 2 (nI 0)) 85 0 (nI p)) 85 1 (nI (R (7 * p + 1))) = Mx
  have hFx : ∀ c j, c ≠ 85 → Mx.1 c j = M.1 c j := fun c j q => by rw [← hMx, setI_nk q, setI_nk q, setI_nk q]
  have hBx : Mx.2 = M.2 := by rw [← hMx]; rfl
  have hS : CZ Mx 0 p (R (7 * p + 1)) := by
    rw [← hMx]
    exact ⟨by rw [setI_ne (by omega), setI_ne (by omega), setI_eq], by rw [setI_ne (by omega), setI_eq], setI_eq⟩
  have em := c_manners (z := z) N (KR_85 hFx (IV_KR h0)) (p := p) (by omega)
  have k3 : (setI (setI M 85 2 (nI 0)) 85 0 (nI p)).1 3 p = nI (R (7 * p + 1)) := by rw [setI_nk (by omega), setI_nk (by omega)]; exact hv
  have hin : inR (nI a) 3 = true := q2
  have fin : ∀ (w : Int32) (L : List Nat), L.length ≤ 12 → fX11_act N (enc z M) z (nI p) (nI a) x3 = some (w, enc z (apC Mx 0 L)) → gX12_from N 12 (enc z (setI (apC Mx 0 L) 126 23 (nI 0))) (z + 126) (nI (R (7 * p))) (nI p) (nI a) x3 = some (w, enc z (apM (setI (apC Mx 0 L) 126 23 (nI 0)) 0 L)) → ST z (fun h => fX11_act N h z (nI p) (nI a) x3) (fun h => fX12_act N h (z + 126) (nI p) (nI a) x3) M := by
    intro w L hL k1 k2
    have hA := ac_AM (L := L) h0 hFx
    have e3 := m_isM (z := z) N hA.2.1 h6 (nI p)
    have e5 := m_in N (h := enc z (setI (apC Mx 0 L) 126 23 (nI 0))) (x := nI a) (n := 2) (by omega)
    rw [q1] at e3
    rw [hin] at e5
    have e7 : gX12_all N 12 (enc z (setI (apC Mx 0 L) 126 23 (nI 0))) (z + 126) (nI p) (nI a) x3 = some (w, enc z (apM (setI (apC Mx 0 L) 126 23 (nI 0)) 0 L)) := m_allQ N (by omega) hA k2
    refine ⟨w, apC Mx 0 L, apM (setI (apC Mx 0 L) 126 23 (nI 0)) 0 L, k1, ?_, R, T, hc, ac_end h0 (p := 0) (v := 0) hL hS.1 hBx hFx⟩
    show fX12_act N (enc z (apC Mx 0 L)) (z + 126) (nI p) (nI a) x3 = _
    rw [fX12_act]; simp only [lit]
    rw [P126_23b, O126b, zc e3]
    simp (disch := omega) only [↓znm_, ↓reduceIte, rn0, rn1, rbI, nle_t, nle_f, nlt_t, nlt_f, neq_t, neq_f, x_add, x_mul, x_sub, x_div, ↓x_rem, x_remN, setI_eq, setI_ne, setI_nk, setI_2, bn0, bn1, reduceCtorEq, ↓zc e5, ↓O126b, ↓G126_0b, ↓G126_1b, ↓G126_2b, ↓G126_3b, ↓P126_3b, ↓G126_4b, ↓G126_5b, ↓P126_5b, ↓G126_6b, ↓G126_7b, ↓G126_8b, ↓P126_8b, ↓G126_9b, ↓G126_10b, ↓P126_10b, ↓G126_11b, ↓P126_11b, ↓G126_12b, ↓P126_12b, ↓G126_13b, ↓P126_13b, ↓G126_14b, ↓P126_14b, ↓G126_15b, ↓P126_15b, ↓G126_16b, ↓G126_17b, ↓G126_18b, ↓G126_19b, ↓G126_20b, ↓G126_21b, ↓G126_22b, ↓G126_23b, ↓P126_23b, ↓G126_24b, ↓G126_25b, ↓G126_26b, ↓G126_27b, ↓A127b, ↓A127m, ↓A127p, ↓A127mp, ↓A127pm, ↓A127pmp, ↓A127mpp, ↓A127pp, ↓S127b, ↓S127m, ↓S127p, ↓S127mp, ↓S127pm, ↓S127pmp, ↓S127mpp, ↓S127pp, ↓N127b, ↓A128b, ↓S128b, ↓N128b, ↓A129b, ↓S129b, ↓N129b, ↓A130b, ↓S130b, ↓N130b, ↓A131b, ↓A131m, ↓A131p, ↓A131mp, ↓A131pm, ↓A131pmp, ↓A131mpp, ↓A131pp, ↓S131b, ↓S131m, ↓S131p, ↓S131mp, ↓S131pm, ↓S131pmp, ↓S131mpp, ↓S131pp, ↓N131b, ↓A132b, ↓S132b, ↓N132b, ↓A133b, ↓S133b, ↓N133b, ↓A134b, ↓S134b, ↓N134b, ↓A135b, ↓S135b, ↓N135b, ↓A136b, ↓S136b, ↓N136b, ↓A137b, ↓A137m, ↓A137p, ↓A137mp, ↓A137pm, ↓A137pmp, ↓A137mpp, ↓A137pp, ↓S137b, ↓S137m, ↓S137p, ↓S137mp, ↓S137pm, ↓S137pmp, ↓S137mpp, ↓S137pp, ↓N137b, ↓A138b, ↓S138b, ↓N138b, ↓A139b, ↓A139m, ↓A139p, ↓A139mp, ↓A139pm, ↓A139pmp, ↓A139mpp, ↓A139pp, ↓S139b, ↓S139m, ↓S139p, ↓S139mp, ↓S139pm, ↓S139pmp, ↓S139mpp, ↓S139pp, ↓N139b, ↓A140b, ↓S140b, ↓N140b, ↓A141b, ↓S141b, ↓N141b, ↓A142b, ↓S142b, ↓N142b, ↓A143b, ↓A143m, ↓A143p, ↓A143mp, ↓A143pm, ↓A143pmp, ↓A143mpp, ↓A143pp, ↓S143b, ↓S143m, ↓S143p, ↓S143mp, ↓S143pm, ↓S143pmp, ↓S143mpp, ↓S143pp, ↓A144b, ↓S144b, A127b, S127b, A128b, S128b, A129b, S129b, A130b, S130b, A131b, S131b, A132b, S132b, A133b, S133b, A134b, S134b, A135b, S135b, A136b, S136b, A137b, S137b, A138b, S138b, A139b, S139b, A140b, S140b, A141b, S141b, A142b, S142b, A143b, S143b, A144b, S144b, ↓P126_3n, ↓P126_12n, ↓P126_12o, ↓zc e7]
  have pre : ∀ (w : Int32) (L : List Nat), (if nI a = nI 0 then zcall ((zkind (enc z Mx) (z + (72 + R (7 * p)))).bind fun c => if c = 0 then fX0_dines N (enc z Mx) (z + (72 + R (7 * p))) (z + 85) x3 else if c = 1 then fX7_dines N (enc z Mx) (z + (72 + R (7 * p))) (z + 85) x3 else if c = 2 then fX3_dines N (enc z Mx) (z + (72 + R (7 * p))) (z + 85) x3 else if c = 3 then fX3_dines N (enc z Mx) (z + (72 + R (7 * p))) (z + 85) x3 else if c = 4 then fX7_dines N (enc z Mx) (z + (72 + R (7 * p))) (z + 85) x3 else if c = 7 then fX7_dines N (enc z Mx) (z + (72 + R (7 * p))) (z + 85) x3 else if c = 9 then fX9_dines N (enc z Mx) (z + (72 + R (7 * p))) (z + 85) x3 else none) (fun v h => some (v, h)) else if nI a = nI 1 then zcall ((zkind (enc z Mx) (z + (72 + R (7 * p)))).bind fun c => if c = 0 then fX0_nods N (enc z Mx) (z + (72 + R (7 * p))) (z + 85) x3 else if c = 1 then fX7_nods N (enc z Mx) (z + (72 + R (7 * p))) (z + 85) x3 else if c = 2 then fX7_nods N (enc z Mx) (z + (72 + R (7 * p))) (z + 85) x3 else if c = 3 then fX7_nods N (enc z Mx) (z + (72 + R (7 * p))) (z + 85) x3 else if c = 4 then fX4_nods N (enc z Mx) (z + (72 + R (7 * p))) (z + 85) x3 else if c = 7 then fX7_nods N (enc z Mx) (z + (72 + R (7 * p))) (z + 85) x3 else if c = 9 then fX9_nods N (enc z Mx) (z + (72 + R (7 * p))) (z + 85) x3 else none) (fun v h => some (v, h)) else zcall ((zkind (enc z Mx) (z + (72 + R (7 * p)))).bind fun c => if c = 0 then fX7_tells N (enc z Mx) (z + (72 + R (7 * p))) (z + 85) x3 else if c = 1 then fX1_tells N (enc z Mx) (z + (72 + R (7 * p))) (z + 85) x3 else if c = 2 then fX2_tells N (enc z Mx) (z + (72 + R (7 * p))) (z + 85) x3 else if c = 3 then fX7_tells N (enc z Mx) (z + (72 + R (7 * p))) (z + 85) x3 else if c = 4 then fX7_tells N (enc z Mx) (z + (72 + R (7 * p))) (z + 85) x3 else if c = 7 then fX7_tells N (enc z Mx) (z + (72 + R (7 * p))) (z + 85) x3 else if c = 9 then fX1_tells N (enc z Mx) (z + (72 + R (7 * p))) (z + 85) x3 else none) (fun v h => some (v, h))) = some (w, enc z (apC Mx 0 L)) → fX11_act N (enc z M) z (nI p) (nI a) x3 = some (w, enc z (apC Mx 0 L)) := by
    intro w L k1
    rw [fX11_act]; simp only [lit]
    rw [G0_9b, O85b, zc ecl, G0_0b, O1b, zc e1]
    simp (disch := omega) only [bn0, reduceCtorEq, ↓reduceIte, nlt_f, nle_t]
    rw [G0_9b, P85_0b, G0_9b, G0_0b, G1_2b, A3b (by omega), k3, P85_1b, hMx, O0b, zc em, G0_9b, G0_9b, G0_9b]
    exact k1
  rcases (show a = 0 ∨ a = 1 ∨ a = 2 by omega) with rfl | rfl | rfl
  · refine fin (dV (R (7 * p)) p (R (7 * p + 1)) x3) (dL (R (7 * p))) (by have := dL_len _ hk; omega) (pre _ _ ?_) (m_d (d := 10) N hN (by omega) (ac_AM h0 hFx) (by omega) hk)
    have e := c_dd (z := z) (x := x3) N hk hS (by omega)
    simp (disch := omega) only [neq_t, ↓reduceIte]
    rw [zc e]
  · refine fin (nV (R (7 * p)) (R (7 * p)) p (R (7 * p + 1)) x3) (nL_ (R (7 * p)) (R (7 * p))) (by have := nL_len _ hk _ hk; omega) (pre _ _ ?_) (m_n (d := 7) N hN (by omega) hk (ac_AM h0 hFx) (by omega) hk)
    have e := c_nd (z := z) (x := x3) N hk hS (by omega)
    simp (disch := omega) only [neq_t, neq_f, ↓reduceIte]
    rw [zc e]
  · refine fin (tV (R (7 * p)) (R (7 * p)) p (R (7 * p + 1)) x3) (tL_ (R (7 * p)) (R (7 * p))) (tL_len _ hk) (pre _ _ ?_) (m_t (d := 5) N hN (by omega) hk (ac_AM h0 hFx) hk)
    have e := c_td (z := z) (x := x3) N hk hS (by omega)
    simp (disch := omega) only [neq_t, neq_f, ↓reduceIte]
    rw [zc e]
end
