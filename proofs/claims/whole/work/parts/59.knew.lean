def cntB (P : Nat → Bool) : Nat → Nat
  | 0 => 0
  | n + 1 => cntB P n + (if P n = true then 1 else 0)
theorem cntB_congr {P Q : Nat → Bool} : ∀ n, (∀ s, s < n → P s = Q s) → cntB P n = cntB Q n := by
  intro n
  induction n with
  | zero => intro _; rfl
  | succ n ih => intro h; rw [cntB, cntB, ih (fun s hs => h s (by omega)), h n (by omega)]
theorem cntB_z {P : Nat → Bool} : ∀ n, (∀ s, s < n → P s = false) → cntB P n = 0 := by
  intro n
  induction n with
  | zero => intro _; rfl
  | succ n ih => intro h; rw [cntB, ih (fun s hs => h s (by omega)), h n (by omega)]; rfl
theorem cntB_add (P : Nat → Bool) (a : Nat) : ∀ b, cntB P (a + b) = cntB P a + cntB (fun s => P (a + s)) b := by
  intro b
  induction b with
  | zero => rfl
  | succ b ih => rw [← Nat.add_assoc, cntB, cntB, ih, Nat.add_assoc]
def okF (L F s : Nat) : Nat → Bool
  | 0 => true
  | n + 1 => okF L F s n && ((s.testBit n && L.testBit n) == F.testBit n)
theorem okF_congr {L F s t : Nat} : ∀ n, (∀ i, i < n → s.testBit i = t.testBit i) → okF L F s n = okF L F t n := by
  intro n
  induction n with
  | zero => intro _; rfl
  | succ n ih => intro h; rw [okF, okF, ih (fun i hi => h i (by omega)), h n (by omega)]
theorem okF_iff {L F s : Nat} : ∀ n, okF L F s n = true ↔ ∀ i, i < n → (s.testBit i && L.testBit i) = F.testBit i := by
  intro n
  induction n with
  | zero => exact ⟨fun _ i hi => by omega, fun _ => rfl⟩
  | succ n ih =>
    rw [okF, Bool.and_eq_true, ih, beq_iff_eq]
    constructor
    · intro h i hi
      by_cases e : i = n
      · rw [e]; exact h.2
      · exact h.1 i (by omega)
    · intro h
      exact ⟨fun i hi => h i (by omega), h n (by omega)⟩
theorem okF_cnt {L F : Nat} : ∀ n, (∀ i, i < n → F.testBit i = true → L.testBit i = true) → cntB (fun s => okF L F s n) (2 ^ n) = 2 ^ (n - pcN L n) := by
  intro n
  induction n with
  | zero => intro _; rfl
  | succ n ih =>
    intro h
    have ihn := ih (fun i hi => h i (by omega))
    have hp := pc_le L n
    rw [show 2 ^ (n + 1) = 2 ^ n + 2 ^ n by rw [Nat.pow_succ]; omega, cntB_add]
    have e1 : cntB (fun s => okF L F s (n + 1)) (2 ^ n) = cntB (fun s => okF L F s n && (false == F.testBit n)) (2 ^ n) := cntB_congr _ (fun s hs => by
      show okF L F s (n + 1) = _
      rw [okF, Nat.testBit_lt_two_pow hs, Bool.false_and])
    have e2 : cntB (fun s => okF L F (2 ^ n + s) (n + 1)) (2 ^ n) = cntB (fun s => okF L F s n && (L.testBit n == F.testBit n)) (2 ^ n) := cntB_congr _ (fun s hs => by
      show okF L F (2 ^ n + s) (n + 1) = _
      rw [okF, okF_congr n (fun i hi => Nat.testBit_two_pow_add_gt hi s), Nat.testBit_two_pow_add_eq, Nat.testBit_lt_two_pow hs]
      simp only [Bool.not_false, Bool.true_and])
    rw [e1, e2, pcN]
    have hn := h n (by omega)
    cases hL : L.testBit n <;> cases hF : F.testBit n
    · rw [if_neg (by decide), show n + 1 - (pcN L n + 0) = (n - pcN L n) + 1 by omega, Nat.pow_succ, ← ihn]
      rw [cntB_congr (Q := fun s => okF L F s n) _ (fun s _ => by show (okF L F s n && _) = _; simp)]
      omega
    · rw [hF, hL] at hn; exact absurd (hn rfl) (by decide)
    · rw [if_pos rfl, show n + 1 - (pcN L n + 1) = n - pcN L n by omega, ← ihn]
      rw [cntB_congr (P := fun s => okF L F s n && (false == false)) (Q := fun s => okF L F s n) _ (fun s _ => by show (okF L F s n && _) = _; simp), cntB_z (P := fun s => okF L F s n && (true == false)) _ (fun s _ => by show (okF L F s n && _) = _; simp)]
      exact Nat.add_zero _
    · rw [if_pos rfl, show n + 1 - (pcN L n + 1) = n - pcN L n by omega, ← ihn]
      rw [cntB_congr (P := fun s => okF L F s n && (true == true)) (Q := fun s => okF L F s n) _ (fun s _ => by show (okF L F s n && _) = _; simp), cntB_z (P := fun s => okF L F s n && (false == true)) _ (fun s _ => by show (okF L F s n && _) = _; simp), Nat.zero_add]
theorem cnF_1 {P : Nat → Bool} : ∀ k n l, (cnF P k n l).1 = n + cntB P k := by
  intro k
  induction k with
  | zero => intro n l; rfl
  | succ k ih =>
    intro n l
    rw [cnF, cntB]
    by_cases h : P k = true
    · rw [if_pos h, if_pos h, ih]; omega
    · rw [if_neg h, if_neg h, ih]; omega
theorem cnF_2n {P : Nat → Bool} : ∀ k n l, (∀ s, s < k → P s = false) → (cnF P k n l).2 = l := by
  intro k
  induction k with
  | zero => intro n l _; rfl
  | succ k ih =>
    intro n l h
    rw [cnF, if_neg (by rw [h k (by omega)]; decide)]
    exact ih _ _ (fun s hs => h s (by omega))
theorem cnF_2m {P : Nat → Bool} {m : Nat} (hm : P m = true) (hl : ∀ s, s < m → P s = false) : ∀ k n l, m < k → (cnF P k n l).2 = nI m := by
  intro k
  induction k with
  | zero => intro n l h; omega
  | succ k ih =>
    intro n l h
    rw [cnF]
    by_cases e : m = k
    · subst e
      rw [if_pos hm, cnF_2n _ _ _ hl]
    · by_cases hk : P k = true
      · rw [if_pos hk]; exact ih _ _ (by omega)
      · rw [if_neg hk]; exact ih _ _ (by omega)
def kwB (L F : Nat) (s : Nat) : Bool := decide (s &&& L = F)
def kwR (L F x : Nat) : Int32 := if dif F L = 0 then (if x = 0 then nI (2 ^ (8 - pc L)) else nI F) else (if x = 0 then nI 0 else -nI 5)
theorem dif_z {F L : Nat} : dif F L = 0 ↔ F &&& L = F := by
  constructor
  · intro h
    apply Nat.eq_of_testBit_eq
    intro i
    have := dif_bit F L i
    rw [h, Nat.zero_testBit] at this
    rw [Nat.testBit_and]
    revert this
    cases F.testBit i <;> cases L.testBit i <;> simp
  · intro h
    unfold dif
    rw [h, Nat.xor_self]
theorem kwB_ok {L F s : Nat} (hs : s < 256) (hF : F < 256) : kwB L F s = okF L F s 8 := by
  have : kwB L F s = true ↔ okF L F s 8 = true := by
    rw [okF_iff]
    unfold kwB
    rw [decide_eq_true_iff]
    constructor
    · intro h i _
      rw [← h, Nat.testBit_and]
    · intro h
      apply Nat.eq_of_testBit_eq
      intro i
      rw [Nat.testBit_and]
      by_cases hi : i < 8
      · exact h i hi
      · rw [bit_lt (n := 8) hs (by omega), bit_lt (n := 8) hF (by omega), Bool.false_and]
  cases h1 : kwB L F s <;> cases h2 : okF L F s 8
  · rfl
  · rw [this.mpr h2] at h1; cases h1
  · rw [this.mp h1] at h2; cases h2
  · rfl
theorem kw_eq {L F x : Nat} (hF : F < 256) (hx : x < 2) : (if x = 0 then nI (cnF (kwB L F) 256 0 (-nI 5)).1 else (cnF (kwB L F) 256 0 (-nI 5)).2) = kwR L F x := by
  unfold kwR
  by_cases hd : dif F L = 0
  · rw [if_pos hd]
    have hd' := dif_z.mp hd
    rcases (show x = 0 ∨ x = 1 by omega) with rfl | rfl
    · rw [if_pos rfl, if_pos rfl, cnF_1, Nat.zero_add, cntB_congr (Q := fun s => okF L F s 8) 256 (fun s hs => kwB_ok hs hF)]
      rw [show cntB (fun s => okF L F s 8) 256 = 2 ^ (8 - pcN L 8) from okF_cnt 8 (fun i hi hb => by
        have := congrArg (fun w => Nat.testBit w i) hd'
        have this : (F &&& L).testBit i = F.testBit i := this
        rw [Nat.testBit_and, hb, Bool.true_and] at this
        exact this)]
      rfl
    · rw [if_neg (by omega), if_neg (by omega)]
      exact cnF_2m (m := F) (decide_eq_true hd') (fun s hs => decide_eq_false (fun q => by have := Nat.and_le_left (n := s) (m := L); omega)) 256 0 _ hF
  · rw [if_neg hd]
    have hn : ∀ s, s < 256 → kwB L F s = false := fun s _ => decide_eq_false (fun q => hd (dif_z.mpr (by rw [← q, Nat.and_assoc, Nat.and_self])))
    rcases (show x = 0 ∨ x = 1 by omega) with rfl | rfl
    · rw [if_pos rfl, if_pos rfl, cnF_1, cntB_z 256 hn]
    · rw [if_neg (by omega), if_neg (by omega)]
      exact cnF_2n 256 0 _ hn
section
variable {z : Nat} (N : Nat) {M : PM} {R : Nat → Nat} {T : TT} {hc : Nat}
theorem m_kw91 {h : AH} {L F x : Nat} (hF : F < 256) (hx : x < 2) : ∀ m k n l, k ≤ 256 → k < m → n + k ≤ 256 → zfix (fun _ _ _ _ _ _ _ => none) (bX12_knew_91 N) m h (nI F) (nI x) (nI L) (nI n) l (dn k) = some (if x = 0 then nI (cnF (kwB L F) k n l).1 else (cnF (kwB L F) k n l).2, h) := by
  intro m
  induction m with
  | zero => intro k n l _ h; omega
  | succ m ih =>
    intro k n l hk hm hn
    rw [zfix_succ, bX12_knew_91]
    simp only [lit]
    cases k with
    | zero =>
      rw [cnF]
      rcases (show x = 0 ∨ x = 1 by omega) with rfl | rfl
      · simp (disch := omega) only [↓znm_, ↓reduceIte, rn0, rn1, rbI, nle_t, nle_f, nlt_t, nlt_f, neq_t, neq_f, x_add, x_mul, x_sub, x_div, ↓x_rem, x_remN, setI_eq, setI_ne, setI_nk, setI_2, bn0, bn1, reduceCtorEq, dn_neg]
      · simp (disch := omega) only [↓znm_, ↓reduceIte, rn0, rn1, rbI, nle_t, nle_f, nlt_t, nlt_f, neq_t, neq_f, x_add, x_mul, x_sub, x_div, ↓x_rem, x_remN, setI_eq, setI_ne, setI_nk, setI_2, bn0, bn1, reduceCtorEq, dn_neg] <;> rfl
    | succ k =>
      rw [dn_s]
      have hl : k &&& L ≤ k := Nat.and_le_left
      by_cases hq : k &&& L = F
      · rw [cnF_t (P := kwB L F) (decide_eq_true hq)]
        have nxt := ih k (n + 1) (nI k) (by omega) (by omega) (by omega)
        simp (disch := omega) only [↓znm_, ↓reduceIte, rn0, rn1, rbI, nle_t, nle_f, nlt_t, nlt_f, neq_t, neq_f, x_add, x_mul, x_sub, x_div, ↓x_rem, x_remN, setI_eq, setI_ne, setI_nk, setI_2, bn0, bn1, reduceCtorEq, x_and, bX12_knew_110, lit, bX12_knew_124, nI_dec]
        exact nxt
      · rw [cnF_f (P := kwB L F) (decide_eq_false hq)]
        have nxt := ih k n l (by omega) (by omega) (by omega)
        simp (disch := omega) only [↓znm_, ↓reduceIte, rn0, rn1, rbI, nle_t, nle_f, nlt_t, nlt_f, neq_t, neq_f, x_add, x_mul, x_sub, x_div, ↓x_rem, x_remN, setI_eq, setI_ne, setI_nk, setI_2, bn0, bn1, reduceCtorEq, x_and, bX12_knew_110, lit, bX12_knew_124, nI_dec, Nat.add_zero]
        exact nxt
theorem m_kw48 (hN : 300 ≤ N) {M0 : PM} (hQ : QM M0 R T hc) {p F x n : Nat} (hp : p < R 76) (hF : F < 256) (hx : x < 2) (hn : n ≤ 20) : ∀ m i (M : PM) f, i ≤ n → n - i < m → FM M0 M → f < 256 → ∃ M', zfix (fun _ _ _ _ _ _ _ _ => none) (bX12_knew_48 N) m (enc z M) (z + 126) (nI p) (nI F) (nI n) (nI x) (nI f) (nI i) = some (kwR (ktF T R p (n - i) f (R 79 + i)) F x, enc z M') ∧ FM M0 M' := by
  have h79 := hQ.2.2.2
  intro m
  induction m with
  | zero => intro i M f _ h; omega
  | succ m ih =>
    intro i M f hi hm hFm hf
    rw [zfix_succ, bX12_knew_48]
    simp only [lit]
    by_cases e : i = n
    · subst e
      refine ⟨M, ?_, hFm⟩
      rw [Nat.sub_self, ktF, ← kw_eq hF hx]
      simp (disch := omega) only [↓znm_, ↓reduceIte, rn0, rn1, rbI, nle_t, nle_f, nlt_t, nlt_f, neq_t, neq_f, x_add, x_mul, x_sub, x_div, ↓x_rem, x_remN, setI_eq, setI_ne, setI_nk, setI_2, bn0, bn1, reduceCtorEq]
      exact m_kw91 N hF hx N 256 0 (-nI 5) (by omega) (by omega) (by omega)
    · have hq := QM_M hQ hFm
      have k2 := hq.1 79 (by omega)
      obtain ⟨M1, g1, g2⟩ := m_staysQ (z := z) N hN hq (f := f) (n := i) hp hf (by omega)
      obtain ⟨M2, f1, f2⟩ := ih (i + 1) M1 _ (by omega) (by omega) (FM_trans hFm g2) (KK_lt (T := T) (R := R) (v := R (7 * p + 1)) (p := p) (facts := f) (d := R 79 + i))
      refine ⟨M2, ?_, f2⟩
      rw [show n - i = n - (i + 1) + 1 by omega, ktF]
      simp (disch := omega) only [↓znm_, ↓reduceIte, rn0, rn1, rbI, nle_t, nle_f, nlt_t, nlt_f, neq_t, neq_f, x_add, x_mul, x_sub, x_div, ↓x_rem, x_remN, setI_eq, setI_ne, setI_nk, setI_2, bn0, bn1, reduceCtorEq, ↓O126b, ↓G126_0b, ↓G126_1b, ↓G126_2b, ↓G126_3b, ↓P126_3b, ↓G126_4b, ↓G126_5b, ↓P126_5b, ↓G126_6b, ↓G126_7b, ↓G126_8b, ↓P126_8b, ↓G126_9b, ↓G126_10b, ↓P126_10b, ↓G126_11b, ↓P126_11b, ↓G126_12b, ↓P126_12b, ↓G126_13b, ↓P126_13b, ↓G126_14b, ↓P126_14b, ↓G126_15b, ↓P126_15b, ↓G126_16b, ↓G126_17b, ↓G126_18b, ↓G126_19b, ↓G126_20b, ↓G126_21b, ↓G126_22b, ↓G126_23b, ↓P126_23b, ↓G126_24b, ↓G126_25b, ↓G126_26b, ↓G126_27b, ↓A127b, ↓A127m, ↓A127p, ↓A127mp, ↓A127pm, ↓A127pmp, ↓A127mpp, ↓A127pp, ↓S127b, ↓S127m, ↓S127p, ↓S127mp, ↓S127pm, ↓S127pmp, ↓S127mpp, ↓S127pp, ↓N127b, ↓A128b, ↓S128b, ↓N128b, ↓A129b, ↓S129b, ↓N129b, ↓A130b, ↓S130b, ↓N130b, ↓A131b, ↓A131m, ↓A131p, ↓A131mp, ↓A131pm, ↓A131pmp, ↓A131mpp, ↓A131pp, ↓S131b, ↓S131m, ↓S131p, ↓S131mp, ↓S131pm, ↓S131pmp, ↓S131mpp, ↓S131pp, ↓N131b, ↓A132b, ↓S132b, ↓N132b, ↓A133b, ↓S133b, ↓N133b, ↓A134b, ↓S134b, ↓N134b, ↓A135b, ↓S135b, ↓N135b, ↓A136b, ↓S136b, ↓N136b, ↓A137b, ↓A137m, ↓A137p, ↓A137mp, ↓A137pm, ↓A137pmp, ↓A137mpp, ↓A137pp, ↓S137b, ↓S137m, ↓S137p, ↓S137mp, ↓S137pm, ↓S137pmp, ↓S137mpp, ↓S137pp, ↓N137b, ↓A138b, ↓S138b, ↓N138b, ↓A139b, ↓A139m, ↓A139p, ↓A139mp, ↓A139pm, ↓A139pmp, ↓A139mpp, ↓A139pp, ↓S139b, ↓S139m, ↓S139p, ↓S139mp, ↓S139pm, ↓S139pmp, ↓S139mpp, ↓S139pp, ↓N139b, ↓A140b, ↓S140b, ↓N140b, ↓A141b, ↓S141b, ↓N141b, ↓A142b, ↓S142b, ↓N142b, ↓A143b, ↓A143m, ↓A143p, ↓A143mp, ↓A143pm, ↓A143pmp, ↓A143mpp, ↓A143pp, ↓S143b, ↓S143m, ↓S143p, ↓S143mp, ↓S143pm, ↓S143pmp, ↓S143mpp, ↓S143pp, ↓A144b, ↓S144b, A127b, S127b, A128b, S128b, A129b, S129b, A130b, S130b, A131b, S131b, A132b, S132b, A133b, S133b, A134b, S134b, A135b, S135b, A136b, S136b, A137b, S137b, A138b, S138b, A139b, S139b, A140b, S140b, A141b, S141b, A142b, S142b, A143b, S143b, A144b, S144b, ↓P126_3n, ↓P126_12n, ↓P126_12o, k2, ↓zc g1]
      exact f1
set_option maxHeartbeats 4000000 in
theorem s_knew (hN : 300 ≤ N) (h : IV M R T hc) (x1 x2 x3 x4 : Int32) : ST z (fun h => fX11_knew N h z x1 x2 x3 x4) (fun h => fX12_knew N h (z + 126) x1 x2 x3 x4) M := by
  have h0 := h
  obtain ⟨hC, hM, hW, hH, _⟩ := h
  have h6 := hW.1
  have e1 := c_hasx (z := z) N (R := R) hC.1 h6 x1
  have e2 := c_isPart N (h := enc z M) x4
  have e3 := m_isM (z := z) N hM h6 x1
  have e4 := c_isSet N (h := enc z M) x2
  have e5 := m_isSet N (h := enc z M) x2
  have e6 := m_in N (h := enc z M) (x := x4) (n := 1) (by omega)
  have e7 := m_in N (h := enc z M) (x := x3) (n := 20) (by omega)
  rcases inR_c x1 (n := R 76) (by omega) with q1 | ⟨p, hp, rfl, q1⟩
  · rw [q1] at e1 e3
    refine ST_same h0 (r := -nI 1) ?_ ?_
    · show fX11_knew N (enc z M) z x1 x2 x3 x4 = _
      rw [fX11_knew]; simp only [lit]; simp (disch := omega) only [↓znm_, ↓reduceIte, rn0, rn1, rbI, nle_t, nle_f, nlt_t, nlt_f, neq_t, neq_f, x_add, x_mul, x_sub, x_div, ↓x_rem, x_remN, setI_eq, setI_ne, setI_nk, setI_2, bn0, bn1, reduceCtorEq, ↓O0b, ↓G0_0b, ↓G0_1b, ↓G0_2b, ↓P0_2b, ↓G0_3b, ↓G0_4b, ↓G0_5b, ↓G0_6b, ↓P0_6b, ↓G0_7b, ↓G0_8b, ↓P0_8b, ↓G0_9b, ↓G0_10b, ↓G0_11b, ↓G0_12b, ↓O1b, ↓G1_0b, ↓P1_0b, ↓G1_1b, ↓G1_2b, ↓G1_3b, ↓G1_4b, ↓G1_5b, ↓P1_5b, ↓G1_6b, ↓G1_7b, ↓G1_8b, ↓G1_9b, ↓P1_9b, ↓G1_10b, ↓G1_11b, ↓P1_11b, ↓G1_12b, ↓P1_12b, ↓G1_13b, ↓P1_13b, ↓G1_14b, ↓P1_14b, ↓G1_15b, ↓G1_16b, ↓P1_16b, ↓G1_17b, ↓G1_18b, ↓P1_18b, ↓G1_19b, ↓O85b, ↓G85_0b, ↓P85_0b, ↓G85_1b, ↓P85_1b, ↓G85_2b, ↓P85_2b, ↓G85_3b, ↓A2b, ↓S2b, ↓N2b, ↓A3b, ↓S3b, ↓N3b, ↓A4b, ↓S4b, ↓N4b, ↓A5b, ↓A5m, ↓A5p, ↓A5mp, ↓A5pm, ↓A5pmp, ↓A5mpp, ↓A5pp, ↓S5b, ↓S5m, ↓S5p, ↓S5mp, ↓S5pm, ↓S5pmp, ↓S5mpp, ↓S5pp, ↓N5b, ↓A6b, ↓S6b, ↓N6b, ↓A7b, ↓S7b, ↓N7b, ↓A8b, ↓S8b, ↓N8b, ↓A9b, ↓S9b, ↓N9b, ↓A84b, ↓S84b, ↓N84b, ↓A86b, ↓S86b, ↓N86b, ↓A88b, ↓S88b, ↓N88b, ↓A89b, ↓S89b, ↓N89b, ↓R10b, ↓R16b, ↓R27b, ↓R83b, ↓R87b, ↓R71b, ↓P0_2n, A2b, S2b, A3b, S3b, A4b, S4b, A5b, S5b, A6b, S6b, A7b, S7b, A8b, S8b, A9b, S9b, A84b, S84b, A86b, S86b, A88b, S88b, A89b, S89b, R10b, R16b, R27b, R83b, R87b, R71b, ↓zc e1]
    · show fX12_knew N (enc z M) (z + 126) x1 x2 x3 x4 = _
      rw [fX12_knew]; simp only [lit]; simp (disch := omega) only [↓znm_, ↓reduceIte, rn0, rn1, rbI, nle_t, nle_f, nlt_t, nlt_f, neq_t, neq_f, x_add, x_mul, x_sub, x_div, ↓x_rem, x_remN, setI_eq, setI_ne, setI_nk, setI_2, bn0, bn1, reduceCtorEq, ↓O126b, ↓G126_0b, ↓G126_1b, ↓G126_2b, ↓G126_3b, ↓P126_3b, ↓G126_4b, ↓G126_5b, ↓P126_5b, ↓G126_6b, ↓G126_7b, ↓G126_8b, ↓P126_8b, ↓G126_9b, ↓G126_10b, ↓P126_10b, ↓G126_11b, ↓P126_11b, ↓G126_12b, ↓P126_12b, ↓G126_13b, ↓P126_13b, ↓G126_14b, ↓P126_14b, ↓G126_15b, ↓P126_15b, ↓G126_16b, ↓G126_17b, ↓G126_18b, ↓G126_19b, ↓G126_20b, ↓G126_21b, ↓G126_22b, ↓G126_23b, ↓P126_23b, ↓G126_24b, ↓G126_25b, ↓G126_26b, ↓G126_27b, ↓A127b, ↓A127m, ↓A127p, ↓A127mp, ↓A127pm, ↓A127pmp, ↓A127mpp, ↓A127pp, ↓S127b, ↓S127m, ↓S127p, ↓S127mp, ↓S127pm, ↓S127pmp, ↓S127mpp, ↓S127pp, ↓N127b, ↓A128b, ↓S128b, ↓N128b, ↓A129b, ↓S129b, ↓N129b, ↓A130b, ↓S130b, ↓N130b, ↓A131b, ↓A131m, ↓A131p, ↓A131mp, ↓A131pm, ↓A131pmp, ↓A131mpp, ↓A131pp, ↓S131b, ↓S131m, ↓S131p, ↓S131mp, ↓S131pm, ↓S131pmp, ↓S131mpp, ↓S131pp, ↓N131b, ↓A132b, ↓S132b, ↓N132b, ↓A133b, ↓S133b, ↓N133b, ↓A134b, ↓S134b, ↓N134b, ↓A135b, ↓S135b, ↓N135b, ↓A136b, ↓S136b, ↓N136b, ↓A137b, ↓A137m, ↓A137p, ↓A137mp, ↓A137pm, ↓A137pmp, ↓A137mpp, ↓A137pp, ↓S137b, ↓S137m, ↓S137p, ↓S137mp, ↓S137pm, ↓S137pmp, ↓S137mpp, ↓S137pp, ↓N137b, ↓A138b, ↓S138b, ↓N138b, ↓A139b, ↓A139m, ↓A139p, ↓A139mp, ↓A139pm, ↓A139pmp, ↓A139mpp, ↓A139pp, ↓S139b, ↓S139m, ↓S139p, ↓S139mp, ↓S139pm, ↓S139pmp, ↓S139mpp, ↓S139pp, ↓N139b, ↓A140b, ↓S140b, ↓N140b, ↓A141b, ↓S141b, ↓N141b, ↓A142b, ↓S142b, ↓N142b, ↓A143b, ↓A143m, ↓A143p, ↓A143mp, ↓A143pm, ↓A143pmp, ↓A143mpp, ↓A143pp, ↓S143b, ↓S143m, ↓S143p, ↓S143mp, ↓S143pm, ↓S143pmp, ↓S143mpp, ↓S143pp, ↓A144b, ↓S144b, A127b, S127b, A128b, S128b, A129b, S129b, A130b, S130b, A131b, S131b, A132b, S132b, A133b, S133b, A134b, S134b, A135b, S135b, A136b, S136b, A137b, S137b, A138b, S138b, A139b, S139b, A140b, S140b, A141b, S141b, A142b, S142b, A143b, S143b, A144b, S144b, ↓P126_3n, ↓P126_12n, ↓P126_12o, ↓zc e3]
  · rw [q1] at e1 e3
    rcases inR_c x4 (n := 2) (by omega) with q2 | ⟨x, hx, rfl, q2⟩
    · rw [q2] at e2 e6
      refine ST_same h0 (r := -nI 1) ?_ ?_
      · show fX11_knew N (enc z M) z (nI p) x2 x3 x4 = _
        rw [fX11_knew]; simp only [lit]; simp (disch := omega) only [↓znm_, ↓reduceIte, rn0, rn1, rbI, nle_t, nle_f, nlt_t, nlt_f, neq_t, neq_f, x_add, x_mul, x_sub, x_div, ↓x_rem, x_remN, setI_eq, setI_ne, setI_nk, setI_2, bn0, bn1, reduceCtorEq, ↓O0b, ↓G0_0b, ↓G0_1b, ↓G0_2b, ↓P0_2b, ↓G0_3b, ↓G0_4b, ↓G0_5b, ↓G0_6b, ↓P0_6b, ↓G0_7b, ↓G0_8b, ↓P0_8b, ↓G0_9b, ↓G0_10b, ↓G0_11b, ↓G0_12b, ↓O1b, ↓G1_0b, ↓P1_0b, ↓G1_1b, ↓G1_2b, ↓G1_3b, ↓G1_4b, ↓G1_5b, ↓P1_5b, ↓G1_6b, ↓G1_7b, ↓G1_8b, ↓G1_9b, ↓P1_9b, ↓G1_10b, ↓G1_11b, ↓P1_11b, ↓G1_12b, ↓P1_12b, ↓G1_13b, ↓P1_13b, ↓G1_14b, ↓P1_14b, ↓G1_15b, ↓G1_16b, ↓P1_16b, ↓G1_17b, ↓G1_18b, ↓P1_18b, ↓G1_19b, ↓O85b, ↓G85_0b, ↓P85_0b, ↓G85_1b, ↓P85_1b, ↓G85_2b, ↓P85_2b, ↓G85_3b, ↓A2b, ↓S2b, ↓N2b, ↓A3b, ↓S3b, ↓N3b, ↓A4b, ↓S4b, ↓N4b, ↓A5b, ↓A5m, ↓A5p, ↓A5mp, ↓A5pm, ↓A5pmp, ↓A5mpp, ↓A5pp, ↓S5b, ↓S5m, ↓S5p, ↓S5mp, ↓S5pm, ↓S5pmp, ↓S5mpp, ↓S5pp, ↓N5b, ↓A6b, ↓S6b, ↓N6b, ↓A7b, ↓S7b, ↓N7b, ↓A8b, ↓S8b, ↓N8b, ↓A9b, ↓S9b, ↓N9b, ↓A84b, ↓S84b, ↓N84b, ↓A86b, ↓S86b, ↓N86b, ↓A88b, ↓S88b, ↓N88b, ↓A89b, ↓S89b, ↓N89b, ↓R10b, ↓R16b, ↓R27b, ↓R83b, ↓R87b, ↓R71b, ↓P0_2n, A2b, S2b, A3b, S3b, A4b, S4b, A5b, S5b, A6b, S6b, A7b, S7b, A8b, S8b, A9b, S9b, A84b, S84b, A86b, S86b, A88b, S88b, A89b, S89b, R10b, R16b, R27b, R83b, R87b, R71b, ↓zc e1, ↓zc e2]
      · show fX12_knew N (enc z M) (z + 126) (nI p) x2 x3 x4 = _
        rw [fX12_knew]; simp only [lit]; simp (disch := omega) only [↓znm_, ↓reduceIte, rn0, rn1, rbI, nle_t, nle_f, nlt_t, nlt_f, neq_t, neq_f, x_add, x_mul, x_sub, x_div, ↓x_rem, x_remN, setI_eq, setI_ne, setI_nk, setI_2, bn0, bn1, reduceCtorEq, ↓O126b, ↓G126_0b, ↓G126_1b, ↓G126_2b, ↓G126_3b, ↓P126_3b, ↓G126_4b, ↓G126_5b, ↓P126_5b, ↓G126_6b, ↓G126_7b, ↓G126_8b, ↓P126_8b, ↓G126_9b, ↓G126_10b, ↓P126_10b, ↓G126_11b, ↓P126_11b, ↓G126_12b, ↓P126_12b, ↓G126_13b, ↓P126_13b, ↓G126_14b, ↓P126_14b, ↓G126_15b, ↓P126_15b, ↓G126_16b, ↓G126_17b, ↓G126_18b, ↓G126_19b, ↓G126_20b, ↓G126_21b, ↓G126_22b, ↓G126_23b, ↓P126_23b, ↓G126_24b, ↓G126_25b, ↓G126_26b, ↓G126_27b, ↓A127b, ↓A127m, ↓A127p, ↓A127mp, ↓A127pm, ↓A127pmp, ↓A127mpp, ↓A127pp, ↓S127b, ↓S127m, ↓S127p, ↓S127mp, ↓S127pm, ↓S127pmp, ↓S127mpp, ↓S127pp, ↓N127b, ↓A128b, ↓S128b, ↓N128b, ↓A129b, ↓S129b, ↓N129b, ↓A130b, ↓S130b, ↓N130b, ↓A131b, ↓A131m, ↓A131p, ↓A131mp, ↓A131pm, ↓A131pmp, ↓A131mpp, ↓A131pp, ↓S131b, ↓S131m, ↓S131p, ↓S131mp, ↓S131pm, ↓S131pmp, ↓S131mpp, ↓S131pp, ↓N131b, ↓A132b, ↓S132b, ↓N132b, ↓A133b, ↓S133b, ↓N133b, ↓A134b, ↓S134b, ↓N134b, ↓A135b, ↓S135b, ↓N135b, ↓A136b, ↓S136b, ↓N136b, ↓A137b, ↓A137m, ↓A137p, ↓A137mp, ↓A137pm, ↓A137pmp, ↓A137mpp, ↓A137pp, ↓S137b, ↓S137m, ↓S137p, ↓S137mp, ↓S137pm, ↓S137pmp, ↓S137mpp, ↓S137pp, ↓N137b, ↓A138b, ↓S138b, ↓N138b, ↓A139b, ↓A139m, ↓A139p, ↓A139mp, ↓A139pm, ↓A139pmp, ↓A139mpp, ↓A139pp, ↓S139b, ↓S139m, ↓S139p, ↓S139mp, ↓S139pm, ↓S139pmp, ↓S139mpp, ↓S139pp, ↓N139b, ↓A140b, ↓S140b, ↓N140b, ↓A141b, ↓S141b, ↓N141b, ↓A142b, ↓S142b, ↓N142b, ↓A143b, ↓A143m, ↓A143p, ↓A143mp, ↓A143pm, ↓A143pmp, ↓A143mpp, ↓A143pp, ↓S143b, ↓S143m, ↓S143p, ↓S143mp, ↓S143pm, ↓S143pmp, ↓S143mpp, ↓S143pp, ↓A144b, ↓S144b, A127b, S127b, A128b, S128b, A129b, S129b, A130b, S130b, A131b, S131b, A132b, S132b, A133b, S133b, A134b, S134b, A135b, S135b, A136b, S136b, A137b, S137b, A138b, S138b, A139b, S139b, A140b, S140b, A141b, S141b, A142b, S142b, A143b, S143b, A144b, S144b, ↓P126_3n, ↓P126_12n, ↓P126_12o, ↓zc e3, ↓zc e6]
    · rw [q2] at e2 e6
      rcases inR_c x2 (n := 256) (by omega) with q3 | ⟨F, hF, rfl, q3⟩
      · rw [q3] at e4 e5
        refine ST_same h0 (r := -nI 2) ?_ ?_
        · show fX11_knew N (enc z M) z (nI p) x2 x3 (nI x) = _
          rw [fX11_knew]; simp only [lit]; simp (disch := omega) only [↓znm_, ↓reduceIte, rn0, rn1, rbI, nle_t, nle_f, nlt_t, nlt_f, neq_t, neq_f, x_add, x_mul, x_sub, x_div, ↓x_rem, x_remN, setI_eq, setI_ne, setI_nk, setI_2, bn0, bn1, reduceCtorEq, ↓O0b, ↓G0_0b, ↓G0_1b, ↓G0_2b, ↓P0_2b, ↓G0_3b, ↓G0_4b, ↓G0_5b, ↓G0_6b, ↓P0_6b, ↓G0_7b, ↓G0_8b, ↓P0_8b, ↓G0_9b, ↓G0_10b, ↓G0_11b, ↓G0_12b, ↓O1b, ↓G1_0b, ↓P1_0b, ↓G1_1b, ↓G1_2b, ↓G1_3b, ↓G1_4b, ↓G1_5b, ↓P1_5b, ↓G1_6b, ↓G1_7b, ↓G1_8b, ↓G1_9b, ↓P1_9b, ↓G1_10b, ↓G1_11b, ↓P1_11b, ↓G1_12b, ↓P1_12b, ↓G1_13b, ↓P1_13b, ↓G1_14b, ↓P1_14b, ↓G1_15b, ↓G1_16b, ↓P1_16b, ↓G1_17b, ↓G1_18b, ↓P1_18b, ↓G1_19b, ↓O85b, ↓G85_0b, ↓P85_0b, ↓G85_1b, ↓P85_1b, ↓G85_2b, ↓P85_2b, ↓G85_3b, ↓A2b, ↓S2b, ↓N2b, ↓A3b, ↓S3b, ↓N3b, ↓A4b, ↓S4b, ↓N4b, ↓A5b, ↓A5m, ↓A5p, ↓A5mp, ↓A5pm, ↓A5pmp, ↓A5mpp, ↓A5pp, ↓S5b, ↓S5m, ↓S5p, ↓S5mp, ↓S5pm, ↓S5pmp, ↓S5mpp, ↓S5pp, ↓N5b, ↓A6b, ↓S6b, ↓N6b, ↓A7b, ↓S7b, ↓N7b, ↓A8b, ↓S8b, ↓N8b, ↓A9b, ↓S9b, ↓N9b, ↓A84b, ↓S84b, ↓N84b, ↓A86b, ↓S86b, ↓N86b, ↓A88b, ↓S88b, ↓N88b, ↓A89b, ↓S89b, ↓N89b, ↓R10b, ↓R16b, ↓R27b, ↓R83b, ↓R87b, ↓R71b, ↓P0_2n, A2b, S2b, A3b, S3b, A4b, S4b, A5b, S5b, A6b, S6b, A7b, S7b, A8b, S8b, A9b, S9b, A84b, S84b, A86b, S86b, A88b, S88b, A89b, S89b, R10b, R16b, R27b, R83b, R87b, R71b, ↓zc e1, ↓zc e2, ↓zc e4]
        · show fX12_knew N (enc z M) (z + 126) (nI p) x2 x3 (nI x) = _
          rw [fX12_knew]; simp only [lit]; simp (disch := omega) only [↓znm_, ↓reduceIte, rn0, rn1, rbI, nle_t, nle_f, nlt_t, nlt_f, neq_t, neq_f, x_add, x_mul, x_sub, x_div, ↓x_rem, x_remN, setI_eq, setI_ne, setI_nk, setI_2, bn0, bn1, reduceCtorEq, ↓O126b, ↓G126_0b, ↓G126_1b, ↓G126_2b, ↓G126_3b, ↓P126_3b, ↓G126_4b, ↓G126_5b, ↓P126_5b, ↓G126_6b, ↓G126_7b, ↓G126_8b, ↓P126_8b, ↓G126_9b, ↓G126_10b, ↓P126_10b, ↓G126_11b, ↓P126_11b, ↓G126_12b, ↓P126_12b, ↓G126_13b, ↓P126_13b, ↓G126_14b, ↓P126_14b, ↓G126_15b, ↓P126_15b, ↓G126_16b, ↓G126_17b, ↓G126_18b, ↓G126_19b, ↓G126_20b, ↓G126_21b, ↓G126_22b, ↓G126_23b, ↓P126_23b, ↓G126_24b, ↓G126_25b, ↓G126_26b, ↓G126_27b, ↓A127b, ↓A127m, ↓A127p, ↓A127mp, ↓A127pm, ↓A127pmp, ↓A127mpp, ↓A127pp, ↓S127b, ↓S127m, ↓S127p, ↓S127mp, ↓S127pm, ↓S127pmp, ↓S127mpp, ↓S127pp, ↓N127b, ↓A128b, ↓S128b, ↓N128b, ↓A129b, ↓S129b, ↓N129b, ↓A130b, ↓S130b, ↓N130b, ↓A131b, ↓A131m, ↓A131p, ↓A131mp, ↓A131pm, ↓A131pmp, ↓A131mpp, ↓A131pp, ↓S131b, ↓S131m, ↓S131p, ↓S131mp, ↓S131pm, ↓S131pmp, ↓S131mpp, ↓S131pp, ↓N131b, ↓A132b, ↓S132b, ↓N132b, ↓A133b, ↓S133b, ↓N133b, ↓A134b, ↓S134b, ↓N134b, ↓A135b, ↓S135b, ↓N135b, ↓A136b, ↓S136b, ↓N136b, ↓A137b, ↓A137m, ↓A137p, ↓A137mp, ↓A137pm, ↓A137pmp, ↓A137mpp, ↓A137pp, ↓S137b, ↓S137m, ↓S137p, ↓S137mp, ↓S137pm, ↓S137pmp, ↓S137mpp, ↓S137pp, ↓N137b, ↓A138b, ↓S138b, ↓N138b, ↓A139b, ↓A139m, ↓A139p, ↓A139mp, ↓A139pm, ↓A139pmp, ↓A139mpp, ↓A139pp, ↓S139b, ↓S139m, ↓S139p, ↓S139mp, ↓S139pm, ↓S139pmp, ↓S139mpp, ↓S139pp, ↓N139b, ↓A140b, ↓S140b, ↓N140b, ↓A141b, ↓S141b, ↓N141b, ↓A142b, ↓S142b, ↓N142b, ↓A143b, ↓A143m, ↓A143p, ↓A143mp, ↓A143pm, ↓A143pmp, ↓A143mpp, ↓A143pp, ↓S143b, ↓S143m, ↓S143p, ↓S143mp, ↓S143pm, ↓S143pmp, ↓S143mpp, ↓S143pp, ↓A144b, ↓S144b, A127b, S127b, A128b, S128b, A129b, S129b, A130b, S130b, A131b, S131b, A132b, S132b, A133b, S133b, A134b, S134b, A135b, S135b, A136b, S136b, A137b, S137b, A138b, S138b, A139b, S139b, A140b, S140b, A141b, S141b, A142b, S142b, A143b, S143b, A144b, S144b, ↓P126_3n, ↓P126_12n, ↓P126_12o, ↓zc e3, ↓zc e6, ↓zc e5]
      · rw [q3] at e4 e5
        rcases inR_c x3 (n := 21) (by omega) with q4 | ⟨n, hn, rfl, q4⟩
        · rw [q4] at e7
          refine ST_same h0 (r := -nI 2) ?_ ?_
          · show fX11_knew N (enc z M) z (nI p) (nI F) x3 (nI x) = _
            rw [fX11_knew]; simp only [lit]
            rcases inR_f q4 with w | ⟨w1', w2'⟩
            · simp (disch := omega) only [↓znm_, ↓reduceIte, rn0, rn1, rbI, nle_t, nle_f, nlt_t, nlt_f, neq_t, neq_f, x_add, x_mul, x_sub, x_div, ↓x_rem, x_remN, setI_eq, setI_ne, setI_nk, setI_2, bn0, bn1, reduceCtorEq, ↓O0b, ↓G0_0b, ↓G0_1b, ↓G0_2b, ↓P0_2b, ↓G0_3b, ↓G0_4b, ↓G0_5b, ↓G0_6b, ↓P0_6b, ↓G0_7b, ↓G0_8b, ↓P0_8b, ↓G0_9b, ↓G0_10b, ↓G0_11b, ↓G0_12b, ↓O1b, ↓G1_0b, ↓P1_0b, ↓G1_1b, ↓G1_2b, ↓G1_3b, ↓G1_4b, ↓G1_5b, ↓P1_5b, ↓G1_6b, ↓G1_7b, ↓G1_8b, ↓G1_9b, ↓P1_9b, ↓G1_10b, ↓G1_11b, ↓P1_11b, ↓G1_12b, ↓P1_12b, ↓G1_13b, ↓P1_13b, ↓G1_14b, ↓P1_14b, ↓G1_15b, ↓G1_16b, ↓P1_16b, ↓G1_17b, ↓G1_18b, ↓P1_18b, ↓G1_19b, ↓O85b, ↓G85_0b, ↓P85_0b, ↓G85_1b, ↓P85_1b, ↓G85_2b, ↓P85_2b, ↓G85_3b, ↓A2b, ↓S2b, ↓N2b, ↓A3b, ↓S3b, ↓N3b, ↓A4b, ↓S4b, ↓N4b, ↓A5b, ↓A5m, ↓A5p, ↓A5mp, ↓A5pm, ↓A5pmp, ↓A5mpp, ↓A5pp, ↓S5b, ↓S5m, ↓S5p, ↓S5mp, ↓S5pm, ↓S5pmp, ↓S5mpp, ↓S5pp, ↓N5b, ↓A6b, ↓S6b, ↓N6b, ↓A7b, ↓S7b, ↓N7b, ↓A8b, ↓S8b, ↓N8b, ↓A9b, ↓S9b, ↓N9b, ↓A84b, ↓S84b, ↓N84b, ↓A86b, ↓S86b, ↓N86b, ↓A88b, ↓S88b, ↓N88b, ↓A89b, ↓S89b, ↓N89b, ↓R10b, ↓R16b, ↓R27b, ↓R83b, ↓R87b, ↓R71b, ↓P0_2n, A2b, S2b, A3b, S3b, A4b, S4b, A5b, S5b, A6b, S6b, A7b, S7b, A8b, S8b, A9b, S9b, A84b, S84b, A86b, S86b, A88b, S88b, A89b, S89b, R10b, R16b, R27b, R83b, R87b, R71b, ↓zc e1, ↓zc e2, ↓zc e4, w]
            · simp (disch := omega) only [↓znm_, ↓reduceIte, rn0, rn1, rbI, nle_t, nle_f, nlt_t, nlt_f, neq_t, neq_f, x_add, x_mul, x_sub, x_div, ↓x_rem, x_remN, setI_eq, setI_ne, setI_nk, setI_2, bn0, bn1, reduceCtorEq, ↓O0b, ↓G0_0b, ↓G0_1b, ↓G0_2b, ↓P0_2b, ↓G0_3b, ↓G0_4b, ↓G0_5b, ↓G0_6b, ↓P0_6b, ↓G0_7b, ↓G0_8b, ↓P0_8b, ↓G0_9b, ↓G0_10b, ↓G0_11b, ↓G0_12b, ↓O1b, ↓G1_0b, ↓P1_0b, ↓G1_1b, ↓G1_2b, ↓G1_3b, ↓G1_4b, ↓G1_5b, ↓P1_5b, ↓G1_6b, ↓G1_7b, ↓G1_8b, ↓G1_9b, ↓P1_9b, ↓G1_10b, ↓G1_11b, ↓P1_11b, ↓G1_12b, ↓P1_12b, ↓G1_13b, ↓P1_13b, ↓G1_14b, ↓P1_14b, ↓G1_15b, ↓G1_16b, ↓P1_16b, ↓G1_17b, ↓G1_18b, ↓P1_18b, ↓G1_19b, ↓O85b, ↓G85_0b, ↓P85_0b, ↓G85_1b, ↓P85_1b, ↓G85_2b, ↓P85_2b, ↓G85_3b, ↓A2b, ↓S2b, ↓N2b, ↓A3b, ↓S3b, ↓N3b, ↓A4b, ↓S4b, ↓N4b, ↓A5b, ↓A5m, ↓A5p, ↓A5mp, ↓A5pm, ↓A5pmp, ↓A5mpp, ↓A5pp, ↓S5b, ↓S5m, ↓S5p, ↓S5mp, ↓S5pm, ↓S5pmp, ↓S5mpp, ↓S5pp, ↓N5b, ↓A6b, ↓S6b, ↓N6b, ↓A7b, ↓S7b, ↓N7b, ↓A8b, ↓S8b, ↓N8b, ↓A9b, ↓S9b, ↓N9b, ↓A84b, ↓S84b, ↓N84b, ↓A86b, ↓S86b, ↓N86b, ↓A88b, ↓S88b, ↓N88b, ↓A89b, ↓S89b, ↓N89b, ↓R10b, ↓R16b, ↓R27b, ↓R83b, ↓R87b, ↓R71b, ↓P0_2n, A2b, S2b, A3b, S3b, A4b, S4b, A5b, S5b, A6b, S6b, A7b, S7b, A8b, S8b, A9b, S9b, A84b, S84b, A86b, S86b, A88b, S88b, A89b, S89b, R10b, R16b, R27b, R83b, R87b, R71b, ↓zc e1, ↓zc e2, ↓zc e4, w1', (ge_f w2' (by omega)).2.1]
          · show fX12_knew N (enc z M) (z + 126) (nI p) (nI F) x3 (nI x) = _
            rw [fX12_knew]; simp only [lit]; simp (disch := omega) only [↓znm_, ↓reduceIte, rn0, rn1, rbI, nle_t, nle_f, nlt_t, nlt_f, neq_t, neq_f, x_add, x_mul, x_sub, x_div, ↓x_rem, x_remN, setI_eq, setI_ne, setI_nk, setI_2, bn0, bn1, reduceCtorEq, ↓O126b, ↓G126_0b, ↓G126_1b, ↓G126_2b, ↓G126_3b, ↓P126_3b, ↓G126_4b, ↓G126_5b, ↓P126_5b, ↓G126_6b, ↓G126_7b, ↓G126_8b, ↓P126_8b, ↓G126_9b, ↓G126_10b, ↓P126_10b, ↓G126_11b, ↓P126_11b, ↓G126_12b, ↓P126_12b, ↓G126_13b, ↓P126_13b, ↓G126_14b, ↓P126_14b, ↓G126_15b, ↓P126_15b, ↓G126_16b, ↓G126_17b, ↓G126_18b, ↓G126_19b, ↓G126_20b, ↓G126_21b, ↓G126_22b, ↓G126_23b, ↓P126_23b, ↓G126_24b, ↓G126_25b, ↓G126_26b, ↓G126_27b, ↓A127b, ↓A127m, ↓A127p, ↓A127mp, ↓A127pm, ↓A127pmp, ↓A127mpp, ↓A127pp, ↓S127b, ↓S127m, ↓S127p, ↓S127mp, ↓S127pm, ↓S127pmp, ↓S127mpp, ↓S127pp, ↓N127b, ↓A128b, ↓S128b, ↓N128b, ↓A129b, ↓S129b, ↓N129b, ↓A130b, ↓S130b, ↓N130b, ↓A131b, ↓A131m, ↓A131p, ↓A131mp, ↓A131pm, ↓A131pmp, ↓A131mpp, ↓A131pp, ↓S131b, ↓S131m, ↓S131p, ↓S131mp, ↓S131pm, ↓S131pmp, ↓S131mpp, ↓S131pp, ↓N131b, ↓A132b, ↓S132b, ↓N132b, ↓A133b, ↓S133b, ↓N133b, ↓A134b, ↓S134b, ↓N134b, ↓A135b, ↓S135b, ↓N135b, ↓A136b, ↓S136b, ↓N136b, ↓A137b, ↓A137m, ↓A137p, ↓A137mp, ↓A137pm, ↓A137pmp, ↓A137mpp, ↓A137pp, ↓S137b, ↓S137m, ↓S137p, ↓S137mp, ↓S137pm, ↓S137pmp, ↓S137mpp, ↓S137pp, ↓N137b, ↓A138b, ↓S138b, ↓N138b, ↓A139b, ↓A139m, ↓A139p, ↓A139mp, ↓A139pm, ↓A139pmp, ↓A139mpp, ↓A139pp, ↓S139b, ↓S139m, ↓S139p, ↓S139mp, ↓S139pm, ↓S139pmp, ↓S139mpp, ↓S139pp, ↓N139b, ↓A140b, ↓S140b, ↓N140b, ↓A141b, ↓S141b, ↓N141b, ↓A142b, ↓S142b, ↓N142b, ↓A143b, ↓A143m, ↓A143p, ↓A143mp, ↓A143pm, ↓A143pmp, ↓A143mpp, ↓A143pp, ↓S143b, ↓S143m, ↓S143p, ↓S143mp, ↓S143pm, ↓S143pmp, ↓S143mpp, ↓S143pp, ↓A144b, ↓S144b, A127b, S127b, A128b, S128b, A129b, S129b, A130b, S130b, A131b, S131b, A132b, S132b, A133b, S133b, A134b, S134b, A135b, S135b, A136b, S136b, A137b, S137b, A138b, S138b, A139b, S139b, A140b, S140b, A141b, S141b, A142b, S142b, A143b, S143b, A144b, S144b, ↓P126_3n, ↓P126_12n, ↓P126_12o, ↓zc e3, ↓zc e6, ↓zc e5, ↓zc e7]
        · obtain ⟨M1, g1, g2⟩ := c_kt (z := z) N hN (IV_QC h0) (p := p) (f := 255) (n := n) hp (by omega) (by omega)
          have hq := IV_QM h0 (FS_Q (a := 89) g2)
          have e3 := m_isM (z := z) N hq.1 h6 (nI p)
          have e5 := m_isSet N (h := enc z M1) (nI F)
          have e6 := m_in N (h := enc z M1) (x := nI x) (n := 1) (by omega)
          have e7 := m_in N (h := enc z M1) (x := nI n) (n := 20) (by omega)
          rw [q1] at e3
          rw [q3] at e5
          rw [q2] at e6
          rw [q4] at e7
          obtain ⟨M2, f1, f2⟩ := m_kw48 (z := z) N hN hq (p := p) (F := F) (x := x) (n := n) hp hF hx (by omega) N 0 M1 255 (by omega) (by omega) FM_refl (by omega)
          have hl := ktF_lt (T := T) (R := R) (p := p) n 255 (R 79) (by omega)
          have hdl : dif F (ktF T R p n 255 (R 79)) < 256 := dif_lt hF
          have hpc := pc_le (ktF T R p n 255 (R 79)) 8
          have hpc : pc (ktF T R p n 255 (R 79)) ≤ 8 := hpc
          have e8 := c_bc N (h := enc z M1) (a := ktF T R p n 255 (R 79)) hl
          refine ST_Q h0 (r := kwR (ktF T R p n 255 (R 79)) F x) (M1 := M1) (M2 := M2) ?_ ?_ (FS_Q g2) f2
          · show fX11_knew N (enc z M) z (nI p) (nI F) (nI n) (nI x) = _
            rw [fX11_knew]; simp only [lit]
            unfold kwR
            by_cases hd : dif F (ktF T R p n 255 (R 79)) = 0
            · rw [if_pos hd]
              rcases (show x = 0 ∨ x = 1 by omega) with rfl | rfl
              · rw [if_pos rfl]
                simp (disch := omega) only [↓znm_, ↓reduceIte, rn0, rn1, rbI, nle_t, nle_f, nlt_t, nlt_f, neq_t, neq_f, x_add, x_mul, x_sub, x_div, ↓x_rem, x_remN, setI_eq, setI_ne, setI_nk, setI_2, bn0, bn1, reduceCtorEq, ↓O0b, ↓G0_0b, ↓G0_1b, ↓G0_2b, ↓P0_2b, ↓G0_3b, ↓G0_4b, ↓G0_5b, ↓G0_6b, ↓P0_6b, ↓G0_7b, ↓G0_8b, ↓P0_8b, ↓G0_9b, ↓G0_10b, ↓G0_11b, ↓G0_12b, ↓O1b, ↓G1_0b, ↓P1_0b, ↓G1_1b, ↓G1_2b, ↓G1_3b, ↓G1_4b, ↓G1_5b, ↓P1_5b, ↓G1_6b, ↓G1_7b, ↓G1_8b, ↓G1_9b, ↓P1_9b, ↓G1_10b, ↓G1_11b, ↓P1_11b, ↓G1_12b, ↓P1_12b, ↓G1_13b, ↓P1_13b, ↓G1_14b, ↓P1_14b, ↓G1_15b, ↓G1_16b, ↓P1_16b, ↓G1_17b, ↓G1_18b, ↓P1_18b, ↓G1_19b, ↓O85b, ↓G85_0b, ↓P85_0b, ↓G85_1b, ↓P85_1b, ↓G85_2b, ↓P85_2b, ↓G85_3b, ↓A2b, ↓S2b, ↓N2b, ↓A3b, ↓S3b, ↓N3b, ↓A4b, ↓S4b, ↓N4b, ↓A5b, ↓A5m, ↓A5p, ↓A5mp, ↓A5pm, ↓A5pmp, ↓A5mpp, ↓A5pp, ↓S5b, ↓S5m, ↓S5p, ↓S5mp, ↓S5pm, ↓S5pmp, ↓S5mpp, ↓S5pp, ↓N5b, ↓A6b, ↓S6b, ↓N6b, ↓A7b, ↓S7b, ↓N7b, ↓A8b, ↓S8b, ↓N8b, ↓A9b, ↓S9b, ↓N9b, ↓A84b, ↓S84b, ↓N84b, ↓A86b, ↓S86b, ↓N86b, ↓A88b, ↓S88b, ↓N88b, ↓A89b, ↓S89b, ↓N89b, ↓R10b, ↓R16b, ↓R27b, ↓R83b, ↓R87b, ↓R71b, ↓P0_2n, A2b, S2b, A3b, S3b, A4b, S4b, A5b, S5b, A6b, S6b, A7b, S7b, A8b, S8b, A9b, S9b, A84b, S84b, A86b, S86b, A88b, S88b, A89b, S89b, R10b, R16b, R27b, R83b, R87b, R71b, ↓zc e1, ↓zc e2, ↓zc e4, ↓zc g1, x_dif1, bX11_knew_66, lit, ↓zc e8, x_sh1]
              · rw [if_neg (by omega)]
                simp (disch := omega) only [↓znm_, ↓reduceIte, rn0, rn1, rbI, nle_t, nle_f, nlt_t, nlt_f, neq_t, neq_f, x_add, x_mul, x_sub, x_div, ↓x_rem, x_remN, setI_eq, setI_ne, setI_nk, setI_2, bn0, bn1, reduceCtorEq, ↓O0b, ↓G0_0b, ↓G0_1b, ↓G0_2b, ↓P0_2b, ↓G0_3b, ↓G0_4b, ↓G0_5b, ↓G0_6b, ↓P0_6b, ↓G0_7b, ↓G0_8b, ↓P0_8b, ↓G0_9b, ↓G0_10b, ↓G0_11b, ↓G0_12b, ↓O1b, ↓G1_0b, ↓P1_0b, ↓G1_1b, ↓G1_2b, ↓G1_3b, ↓G1_4b, ↓G1_5b, ↓P1_5b, ↓G1_6b, ↓G1_7b, ↓G1_8b, ↓G1_9b, ↓P1_9b, ↓G1_10b, ↓G1_11b, ↓P1_11b, ↓G1_12b, ↓P1_12b, ↓G1_13b, ↓P1_13b, ↓G1_14b, ↓P1_14b, ↓G1_15b, ↓G1_16b, ↓P1_16b, ↓G1_17b, ↓G1_18b, ↓P1_18b, ↓G1_19b, ↓O85b, ↓G85_0b, ↓P85_0b, ↓G85_1b, ↓P85_1b, ↓G85_2b, ↓P85_2b, ↓G85_3b, ↓A2b, ↓S2b, ↓N2b, ↓A3b, ↓S3b, ↓N3b, ↓A4b, ↓S4b, ↓N4b, ↓A5b, ↓A5m, ↓A5p, ↓A5mp, ↓A5pm, ↓A5pmp, ↓A5mpp, ↓A5pp, ↓S5b, ↓S5m, ↓S5p, ↓S5mp, ↓S5pm, ↓S5pmp, ↓S5mpp, ↓S5pp, ↓N5b, ↓A6b, ↓S6b, ↓N6b, ↓A7b, ↓S7b, ↓N7b, ↓A8b, ↓S8b, ↓N8b, ↓A9b, ↓S9b, ↓N9b, ↓A84b, ↓S84b, ↓N84b, ↓A86b, ↓S86b, ↓N86b, ↓A88b, ↓S88b, ↓N88b, ↓A89b, ↓S89b, ↓N89b, ↓R10b, ↓R16b, ↓R27b, ↓R83b, ↓R87b, ↓R71b, ↓P0_2n, A2b, S2b, A3b, S3b, A4b, S4b, A5b, S5b, A6b, S6b, A7b, S7b, A8b, S8b, A9b, S9b, A84b, S84b, A86b, S86b, A88b, S88b, A89b, S89b, R10b, R16b, R27b, R83b, R87b, R71b, ↓zc e1, ↓zc e2, ↓zc e4, ↓zc g1, x_dif1, bX11_knew_66, lit]
            · rw [if_neg hd]
              rcases (show x = 0 ∨ x = 1 by omega) with rfl | rfl
              · rw [if_pos rfl]
                simp (disch := omega) only [↓znm_, ↓reduceIte, rn0, rn1, rbI, nle_t, nle_f, nlt_t, nlt_f, neq_t, neq_f, x_add, x_mul, x_sub, x_div, ↓x_rem, x_remN, setI_eq, setI_ne, setI_nk, setI_2, bn0, bn1, reduceCtorEq, ↓O0b, ↓G0_0b, ↓G0_1b, ↓G0_2b, ↓P0_2b, ↓G0_3b, ↓G0_4b, ↓G0_5b, ↓G0_6b, ↓P0_6b, ↓G0_7b, ↓G0_8b, ↓P0_8b, ↓G0_9b, ↓G0_10b, ↓G0_11b, ↓G0_12b, ↓O1b, ↓G1_0b, ↓P1_0b, ↓G1_1b, ↓G1_2b, ↓G1_3b, ↓G1_4b, ↓G1_5b, ↓P1_5b, ↓G1_6b, ↓G1_7b, ↓G1_8b, ↓G1_9b, ↓P1_9b, ↓G1_10b, ↓G1_11b, ↓P1_11b, ↓G1_12b, ↓P1_12b, ↓G1_13b, ↓P1_13b, ↓G1_14b, ↓P1_14b, ↓G1_15b, ↓G1_16b, ↓P1_16b, ↓G1_17b, ↓G1_18b, ↓P1_18b, ↓G1_19b, ↓O85b, ↓G85_0b, ↓P85_0b, ↓G85_1b, ↓P85_1b, ↓G85_2b, ↓P85_2b, ↓G85_3b, ↓A2b, ↓S2b, ↓N2b, ↓A3b, ↓S3b, ↓N3b, ↓A4b, ↓S4b, ↓N4b, ↓A5b, ↓A5m, ↓A5p, ↓A5mp, ↓A5pm, ↓A5pmp, ↓A5mpp, ↓A5pp, ↓S5b, ↓S5m, ↓S5p, ↓S5mp, ↓S5pm, ↓S5pmp, ↓S5mpp, ↓S5pp, ↓N5b, ↓A6b, ↓S6b, ↓N6b, ↓A7b, ↓S7b, ↓N7b, ↓A8b, ↓S8b, ↓N8b, ↓A9b, ↓S9b, ↓N9b, ↓A84b, ↓S84b, ↓N84b, ↓A86b, ↓S86b, ↓N86b, ↓A88b, ↓S88b, ↓N88b, ↓A89b, ↓S89b, ↓N89b, ↓R10b, ↓R16b, ↓R27b, ↓R83b, ↓R87b, ↓R71b, ↓P0_2n, A2b, S2b, A3b, S3b, A4b, S4b, A5b, S5b, A6b, S6b, A7b, S7b, A8b, S8b, A9b, S9b, A84b, S84b, A86b, S86b, A88b, S88b, A89b, S89b, R10b, R16b, R27b, R83b, R87b, R71b, ↓zc e1, ↓zc e2, ↓zc e4, ↓zc g1, x_dif1, bX11_knew_66, lit]
              · rw [if_neg (by omega)]
                simp (disch := omega) only [↓znm_, ↓reduceIte, rn0, rn1, rbI, nle_t, nle_f, nlt_t, nlt_f, neq_t, neq_f, x_add, x_mul, x_sub, x_div, ↓x_rem, x_remN, setI_eq, setI_ne, setI_nk, setI_2, bn0, bn1, reduceCtorEq, ↓O0b, ↓G0_0b, ↓G0_1b, ↓G0_2b, ↓P0_2b, ↓G0_3b, ↓G0_4b, ↓G0_5b, ↓G0_6b, ↓P0_6b, ↓G0_7b, ↓G0_8b, ↓P0_8b, ↓G0_9b, ↓G0_10b, ↓G0_11b, ↓G0_12b, ↓O1b, ↓G1_0b, ↓P1_0b, ↓G1_1b, ↓G1_2b, ↓G1_3b, ↓G1_4b, ↓G1_5b, ↓P1_5b, ↓G1_6b, ↓G1_7b, ↓G1_8b, ↓G1_9b, ↓P1_9b, ↓G1_10b, ↓G1_11b, ↓P1_11b, ↓G1_12b, ↓P1_12b, ↓G1_13b, ↓P1_13b, ↓G1_14b, ↓P1_14b, ↓G1_15b, ↓G1_16b, ↓P1_16b, ↓G1_17b, ↓G1_18b, ↓P1_18b, ↓G1_19b, ↓O85b, ↓G85_0b, ↓P85_0b, ↓G85_1b, ↓P85_1b, ↓G85_2b, ↓P85_2b, ↓G85_3b, ↓A2b, ↓S2b, ↓N2b, ↓A3b, ↓S3b, ↓N3b, ↓A4b, ↓S4b, ↓N4b, ↓A5b, ↓A5m, ↓A5p, ↓A5mp, ↓A5pm, ↓A5pmp, ↓A5mpp, ↓A5pp, ↓S5b, ↓S5m, ↓S5p, ↓S5mp, ↓S5pm, ↓S5pmp, ↓S5mpp, ↓S5pp, ↓N5b, ↓A6b, ↓S6b, ↓N6b, ↓A7b, ↓S7b, ↓N7b, ↓A8b, ↓S8b, ↓N8b, ↓A9b, ↓S9b, ↓N9b, ↓A84b, ↓S84b, ↓N84b, ↓A86b, ↓S86b, ↓N86b, ↓A88b, ↓S88b, ↓N88b, ↓A89b, ↓S89b, ↓N89b, ↓R10b, ↓R16b, ↓R27b, ↓R83b, ↓R87b, ↓R71b, ↓P0_2n, A2b, S2b, A3b, S3b, A4b, S4b, A5b, S5b, A6b, S6b, A7b, S7b, A8b, S8b, A9b, S9b, A84b, S84b, A86b, S86b, A88b, S88b, A89b, S89b, R10b, R16b, R27b, R83b, R87b, R71b, ↓zc e1, ↓zc e2, ↓zc e4, ↓zc g1, x_dif1, bX11_knew_66, lit]
          · show fX12_knew N (enc z M1) (z + 126) (nI p) (nI F) (nI n) (nI x) = _
            rw [fX12_knew]; simp only [lit]; simp (disch := omega) only [↓znm_, ↓reduceIte, rn0, rn1, rbI, nle_t, nle_f, nlt_t, nlt_f, neq_t, neq_f, x_add, x_mul, x_sub, x_div, ↓x_rem, x_remN, setI_eq, setI_ne, setI_nk, setI_2, bn0, bn1, reduceCtorEq, ↓O126b, ↓G126_0b, ↓G126_1b, ↓G126_2b, ↓G126_3b, ↓P126_3b, ↓G126_4b, ↓G126_5b, ↓P126_5b, ↓G126_6b, ↓G126_7b, ↓G126_8b, ↓P126_8b, ↓G126_9b, ↓G126_10b, ↓P126_10b, ↓G126_11b, ↓P126_11b, ↓G126_12b, ↓P126_12b, ↓G126_13b, ↓P126_13b, ↓G126_14b, ↓P126_14b, ↓G126_15b, ↓P126_15b, ↓G126_16b, ↓G126_17b, ↓G126_18b, ↓G126_19b, ↓G126_20b, ↓G126_21b, ↓G126_22b, ↓G126_23b, ↓P126_23b, ↓G126_24b, ↓G126_25b, ↓G126_26b, ↓G126_27b, ↓A127b, ↓A127m, ↓A127p, ↓A127mp, ↓A127pm, ↓A127pmp, ↓A127mpp, ↓A127pp, ↓S127b, ↓S127m, ↓S127p, ↓S127mp, ↓S127pm, ↓S127pmp, ↓S127mpp, ↓S127pp, ↓N127b, ↓A128b, ↓S128b, ↓N128b, ↓A129b, ↓S129b, ↓N129b, ↓A130b, ↓S130b, ↓N130b, ↓A131b, ↓A131m, ↓A131p, ↓A131mp, ↓A131pm, ↓A131pmp, ↓A131mpp, ↓A131pp, ↓S131b, ↓S131m, ↓S131p, ↓S131mp, ↓S131pm, ↓S131pmp, ↓S131mpp, ↓S131pp, ↓N131b, ↓A132b, ↓S132b, ↓N132b, ↓A133b, ↓S133b, ↓N133b, ↓A134b, ↓S134b, ↓N134b, ↓A135b, ↓S135b, ↓N135b, ↓A136b, ↓S136b, ↓N136b, ↓A137b, ↓A137m, ↓A137p, ↓A137mp, ↓A137pm, ↓A137pmp, ↓A137mpp, ↓A137pp, ↓S137b, ↓S137m, ↓S137p, ↓S137mp, ↓S137pm, ↓S137pmp, ↓S137mpp, ↓S137pp, ↓N137b, ↓A138b, ↓S138b, ↓N138b, ↓A139b, ↓A139m, ↓A139p, ↓A139mp, ↓A139pm, ↓A139pmp, ↓A139mpp, ↓A139pp, ↓S139b, ↓S139m, ↓S139p, ↓S139mp, ↓S139pm, ↓S139pmp, ↓S139mpp, ↓S139pp, ↓N139b, ↓A140b, ↓S140b, ↓N140b, ↓A141b, ↓S141b, ↓N141b, ↓A142b, ↓S142b, ↓N142b, ↓A143b, ↓A143m, ↓A143p, ↓A143mp, ↓A143pm, ↓A143pmp, ↓A143mpp, ↓A143pp, ↓S143b, ↓S143m, ↓S143p, ↓S143mp, ↓S143pm, ↓S143pmp, ↓S143mpp, ↓S143pp, ↓A144b, ↓S144b, A127b, S127b, A128b, S128b, A129b, S129b, A130b, S130b, A131b, S131b, A132b, S132b, A133b, S133b, A134b, S134b, A135b, S135b, A136b, S136b, A137b, S137b, A138b, S138b, A139b, S139b, A140b, S140b, A141b, S141b, A142b, S142b, A143b, S143b, A144b, S144b, ↓P126_3n, ↓P126_12n, ↓P126_12o, ↓zc e3, ↓zc e6, ↓zc e5, ↓zc e7]
            exact f1
end
