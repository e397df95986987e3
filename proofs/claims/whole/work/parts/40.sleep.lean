/-! the class sleeps; counts of bits -/
def pcN (a : Nat) : Nat → Nat
  | 0 => 0
  | n + 1 => pcN a n + (if a.testBit n then 1 else 0)
def pc (a : Nat) : Nat := pcN a 8
theorem pc_le (a n : Nat) : pcN a n ≤ n := by
  induction n with
  | zero => exact Nat.le_refl _
  | succ n ih => rw [pcN]; split <;> omega
def bcI (x : Int32) : Int32 :=
  let y1 := x - (((x.toUInt32 >>> ((1 : Int32).toUInt32 &&& Int32.toUInt32 31)).toInt32) &&& (1431655765 : Int32))
  let y2 := (y1 &&& (858993459 : Int32)) + (((y1.toUInt32 >>> ((2 : Int32).toUInt32 &&& Int32.toUInt32 31)).toInt32) &&& (858993459 : Int32))
  let y3 := (y2 + ((y2.toUInt32 >>> ((4 : Int32).toUInt32 &&& Int32.toUInt32 31)).toInt32)) &&& (252645135 : Int32)
  let y4 := y3 + ((y3.toUInt32 >>> ((8 : Int32).toUInt32 &&& Int32.toUInt32 31)).toInt32)
  let y5 := y4 + ((y4.toUInt32 >>> ((16 : Int32).toUInt32 &&& Int32.toUInt32 31)).toInt32)
  y5 &&& (63 : Int32)
theorem bcI_pc : ∀ a, a < 256 → bcI (nI a) = nI (pc a) := by decide +kernel
theorem c_bc (N : Nat) {h : AH} {a : Nat} (ha : a < 256) : fJ6_bitCount_0f7a4 N h (nI a) = some (nI (pc a), h) := by
  rw [← bcI_pc a ha]
  rfl
theorem m_manyL (N : Nat) {h : AH} {a : Nat} (ha : a < 256) : ∀ m i, i ≤ 8 → 8 - i < m → zfix (fun _ _ _ _ => none) (bX12_many_4 N) m h (nI a) (nI (pcN a i)) (nI i) = some (nI (pc a), h) := by
  intro m
  induction m with
  | zero => intro i _ h; omega
  | succ m ih =>
    intro i hi hm
    rw [zfix_succ, bX12_many_4]
    simp only [lit]
    by_cases h8 : i = 8
    · subst h8
      simp (disch := omega) only [↓znm_, ↓reduceIte, rn0, rn1, rbI, nle_t, nle_f, nlt_t, nlt_f, neq_t, neq_f, x_add, x_mul, x_sub, x_div, ↓x_rem, x_remN, setI_eq, setI_ne, setI_nk, setI_2, bn0, bn1, reduceCtorEq]
      rfl
    · have nxt := ih (i + 1) (by omega) (by omega)
      have eb : (if a.testBit i = true then nI 1 else nI 0) = nI (if a.testBit i = true then 1 else 0) := by split <;> rfl
      simp (disch := omega) only [↓znm_, ↓reduceIte, rn0, rn1, rbI, nle_t, nle_f, nlt_t, nlt_f, neq_t, neq_f, x_add, x_mul, x_sub, x_div, ↓x_rem, x_remN, setI_eq, setI_ne, setI_nk, setI_2, bn0, bn1, reduceCtorEq, x_bit1]
      unfold bI
      rw [pcN] at nxt
      have : (if a.testBit i = true then (1 : Int32) else 0) = nI (if a.testBit i = true then 1 else 0) := by split <;> rfl
      rw [this, x_add]
      exact nxt
theorem m_many (N : Nat) (hN : 20 ≤ N) {h : AH} {a : Nat} (ha : a < 256) : fX12_many N h (nI a) = some (nI (pc a), h) := m_manyL N ha N 0 (by omega) (by omega)
/-- the class's minds that sleep: its own, or those dreamed of -/
def FS (a : Nat) (M M' : PM) : Prop := M'.2 = M.2 ∧ ∀ c j, ¬ (c = a ∨ c = 88 ∨ c = 81 ∨ (c = 79 ∧ j = 4) ∨ (90 ≤ c ∧ c < 114 ∧ ((c - 90) % 4 = 2 ∨ ((c - 90) % 4 = 0 ∧ j = 4)))) → M'.1 c j = M.1 c j
theorem FS_refl {a : Nat} {M : PM} : FS a M M := ⟨rfl, fun _ _ _ => rfl⟩
theorem FS_trans {a : Nat} {M M' M'' : PM} (h : FS a M M') (h' : FS a M' M'') : FS a M M'' := ⟨h'.1.trans h.1, fun c j q => (h'.2 c j q).trans (h.2 c j q)⟩
theorem FS_Q {a : Nat} {M M' : PM} (h : FQ M M') : FS a M M' := ⟨h.1, fun c j q => h.2 c j (by omega)⟩
theorem FS_set {a : Nat} {M : PM} {j : Nat} {v : Int32} : FS a M (setI M a j v) := ⟨rfl, fun c i h => setI_nk (by omega)⟩
theorem HK_S {a : Nat} {M M' : PM} {k h : Nat} {S : SF} (ha : a = 4 ∨ a = 89) (hk : isH k) (hF : FS a M M') (hH : HK M k h S) : HK M' k h S := by
  obtain ⟨L, h1, h2, h3⟩ := hH
  refine ⟨L, ⟨h1.1, ?_, fun i hi => ?_, h1.2.2.2⟩, h2, ?_⟩
  · rw [hF.2 k 2 (by rcases hk with rfl | ⟨t, ht, rfl⟩ <;> omega)]; exact h1.2.1
  · rw [hF.2 (k + 1) i (by rcases hk with rfl | ⟨t, ht, rfl⟩ <;> omega)]; exact h1.2.2.1 i hi
  · rw [hF.2 k 0 (by rcases hk with rfl | ⟨t, ht, rfl⟩ <;> omega)]; exact h3
theorem KR_S {a : Nat} {M M' : PM} {R : Nat → Nat} {T : TT} {hc : Nat} (ha : a = 4 ∨ a = 89) (hF : FS a M M') (h : KR M R T hc) : KR M' R T hc := by
  obtain ⟨h1, h2, h3, h4, h5, h6, h7, h8, h9, h10⟩ := h
  refine ⟨by rw [hF.2 1 0 (by omega)]; exact h1, h2, by rw [hF.2 1 13 (by omega)]; exact h3, h4, by rw [hF.2 0 6 (by omega)]; exact h5, h6, fun p hp => by rw [hF.2 2 p (by omega)]; exact h7 p hp, fun p hp q hq => by rw [hF.2 5 _ (by omega)]; exact h8 p hp q hq, HK_S ha (Or.inl rfl) hF h9, fun t ht => HK_S ha (Or.inr ⟨t, by omega, rfl⟩) hF (h10 t ht)⟩
section
variable {z : Nat} (N : Nat) {R : Nat → Nat} {T : TT} {hc a : Nat}
theorem DA (ha : a = 4 ∨ a = 89) {M : PM} {i : Nat} (hi : i < 6) {β : Type} {f : _ → Option β} : (zald 0 (enc z M) (z + a) (nI i)).bind f = f (M.1 a i) := by
  rcases ha with rfl | rfl
  · exact A4b hi
  · exact A89b hi
theorem DS (ha : a = 4 ∨ a = 89) {M : PM} {i : Nat} {v : Int32} (hi : i < 6) {β : Type} {f : _ → Option β} : (zast 0 (enc z M) (z + a) (nI i) v).bind f = f (enc z (setI M a i v)) := by
  rcases ha with rfl | rfl
  · exact S4b hi
  · exact S89b hi
theorem c_sleep12 (hN : 300 ≤ N) (ha : a = 4 ∨ a = 89) {M0 : PM} (hK : KR M0 R T hc) (hv : ∀ p, p < 6 → M0.1 3 p = nI (R (7 * p + 1)) ∧ R (7 * p + 1) < 10) {D : Nat → Nat} (hD : ∀ p, p < 6 → D p < 256) {d x n : Nat} (hd : d + x < 50000) (r3 : AH → Nat → Nat → Int32 → Int32 → Int32 → Option (Unit × AH)) : ∀ m i (M : PM), i ≤ R 76 → R 76 - i < m → FS a M0 M → (∀ p, p < 6 → M.1 a p = nI (if p < i then KK T R (R (7 * p + 1)) p (D p) (d + x) else D p)) → ∃ M', zfix (fun _ _ _ _ _ _ _ => none) (bX11_sleep_12 N r3) m (enc z M) z (z + a) (nI d) (nI n) (nI x) (nI i) = r3 (enc z M') z (z + a) (nI d) (nI n) (nI (x + 1)) ∧ FS a M0 M' ∧ ∀ p, p < 6 → M'.1 a p = nI (nD T R D (d + x) p) := by
  intro m
  induction m with
  | zero => intro i M _ h; omega
  | succ m ih =>
    intro i M hi hm hF hr
    have hK' := KR_S ha hF hK
    have h6 := hK.2.1
    have h0 := hK'.1
    rw [zfix_succ, bX11_sleep_12]
    simp only [lit]
    by_cases h : i = R 76
    · subst h
      refine ⟨M, ?_, hF, fun p hp => hr p hp⟩
      simp (disch := omega) only [↓znm_, ↓reduceIte, rn0, rn1, rbI, nle_t, nle_f, nlt_t, nlt_f, neq_t, neq_f, x_add, x_mul, x_sub, x_div, ↓x_rem, x_remN, setI_eq, setI_ne, setI_nk, setI_2, bn0, bn1, reduceCtorEq, ↓O0b, ↓G0_0b, ↓G0_1b, ↓G0_2b, ↓P0_2b, ↓G0_3b, ↓G0_4b, ↓G0_5b, ↓G0_6b, ↓P0_6b, ↓G0_7b, ↓G0_8b, ↓P0_8b, ↓G0_9b, ↓G0_10b, ↓G0_11b, ↓G0_12b, ↓O1b, ↓G1_0b, ↓P1_0b, ↓G1_1b, ↓G1_2b, ↓G1_3b, ↓G1_4b, ↓G1_5b, ↓P1_5b, ↓G1_6b, ↓G1_7b, ↓G1_8b, ↓G1_9b, ↓P1_9b, ↓G1_10b, ↓G1_11b, ↓P1_11b, ↓G1_12b, ↓P1_12b, ↓G1_13b, ↓P1_13b, ↓G1_14b, ↓P1_14b, ↓G1_15b, ↓G1_16b, ↓P1_16b, ↓G1_17b, ↓G1_18b, ↓P1_18b, ↓G1_19b, ↓O85b, ↓G85_0b, ↓P85_0b, ↓G85_1b, ↓P85_1b, ↓G85_2b, ↓P85_2b, ↓G85_3b, ↓A2b, ↓S2b, ↓N2b, ↓A3b, ↓S3b, ↓N3b, ↓A4b, ↓S4b, ↓N4b, ↓A5b, ↓A5m, ↓A5p, ↓A5mp, ↓A5pm, ↓A5pmp, ↓A5mpp, ↓A5pp, ↓S5b, ↓S5m, ↓S5p, ↓S5mp, ↓S5pm, ↓S5pmp, ↓S5mpp, ↓S5pp, ↓N5b, ↓A6b, ↓S6b, ↓N6b, ↓A7b, ↓S7b, ↓N7b, ↓A8b, ↓S8b, ↓N8b, ↓A9b, ↓S9b, ↓N9b, ↓A84b, ↓S84b, ↓N84b, ↓A86b, ↓S86b, ↓N86b, ↓A88b, ↓S88b, ↓N88b, ↓A89b, ↓S89b, ↓N89b, ↓R10b, ↓R16b, ↓R27b, ↓R83b, ↓R87b, ↓R71b, ↓P0_2n, A2b, S2b, A3b, S3b, A4b, S4b, A5b, S5b, A6b, S6b, A7b, S7b, A8b, S8b, A9b, S9b, A84b, S84b, A86b, S86b, A88b, S88b, A89b, S89b, R10b, R16b, R27b, R83b, R87b, R71b, h0]
    · have k1 : M.1 3 i = nI (R (7 * i + 1)) := by rw [hF.2 3 i (by omega)]; exact (hv i (by omega)).1
      have k2 := hr i (by omega)
      rw [if_neg (by omega)] at k2
      obtain ⟨M1, g1, g2⟩ := c_kept (z := z) N hN hK' (p := i) (v := R (7 * i + 1)) (d := d + x) (facts := D i) (by omega) (hv i (by omega)).2 (by omega) (hD i (by omega))
      have hF1 : FS a M0 (setI M1 a i (nI (KK T R (R (7 * i + 1)) i (D i) (d + x)))) := FS_trans hF (FS_trans (FS_Q g2) FS_set)
      obtain ⟨M', q1, q2, q3⟩ := ih (i + 1) _ (by omega) (by omega) hF1 (fun p hp => by
        by_cases q : p = i
        · subst q; rw [setI_eq]; simp only [(by omega : p < p + 1), if_true]
        · rw [setI_ne q, g2.2 a p (by omega), hr p hp]
          have : p < i + 1 ↔ p < i := by omega
          simp only [this])
      refine ⟨M', ?_, q2, q3⟩
      simp (disch := omega) only [↓znm_, ↓reduceIte, rn0, rn1, rbI, nle_t, nle_f, nlt_t, nlt_f, neq_t, neq_f, x_add, x_mul, x_sub, x_div, ↓x_rem, x_remN, setI_eq, setI_ne, setI_nk, setI_2, bn0, bn1, reduceCtorEq, ↓O0b, ↓G0_0b, ↓G0_1b, ↓G0_2b, ↓P0_2b, ↓G0_3b, ↓G0_4b, ↓G0_5b, ↓G0_6b, ↓P0_6b, ↓G0_7b, ↓G0_8b, ↓P0_8b, ↓G0_9b, ↓G0_10b, ↓G0_11b, ↓G0_12b, ↓O1b, ↓G1_0b, ↓P1_0b, ↓G1_1b, ↓G1_2b, ↓G1_3b, ↓G1_4b, ↓G1_5b, ↓P1_5b, ↓G1_6b, ↓G1_7b, ↓G1_8b, ↓G1_9b, ↓P1_9b, ↓G1_10b, ↓G1_11b, ↓P1_11b, ↓G1_12b, ↓P1_12b, ↓G1_13b, ↓P1_13b, ↓G1_14b, ↓P1_14b, ↓G1_15b, ↓G1_16b, ↓P1_16b, ↓G1_17b, ↓G1_18b, ↓P1_18b, ↓G1_19b, ↓O85b, ↓G85_0b, ↓P85_0b, ↓G85_1b, ↓P85_1b, ↓G85_2b, ↓P85_2b, ↓G85_3b, ↓A2b, ↓S2b, ↓N2b, ↓A3b, ↓S3b, ↓N3b, ↓A4b, ↓S4b, ↓N4b, ↓A5b, ↓A5m, ↓A5p, ↓A5mp, ↓A5pm, ↓A5pmp, ↓A5mpp, ↓A5pp, ↓S5b, ↓S5m, ↓S5p, ↓S5mp, ↓S5pm, ↓S5pmp, ↓S5mpp, ↓S5pp, ↓N5b, ↓A6b, ↓S6b, ↓N6b, ↓A7b, ↓S7b, ↓N7b, ↓A8b, ↓S8b, ↓N8b, ↓A9b, ↓S9b, ↓N9b, ↓A84b, ↓S84b, ↓N84b, ↓A86b, ↓S86b, ↓N86b, ↓A88b, ↓S88b, ↓N88b, ↓A89b, ↓S89b, ↓N89b, ↓R10b, ↓R16b, ↓R27b, ↓R83b, ↓R87b, ↓R71b, ↓P0_2n, A2b, S2b, A3b, S3b, A4b, S4b, A5b, S5b, A6b, S6b, A7b, S7b, A8b, S8b, A9b, S9b, A84b, S84b, A86b, S86b, A88b, S88b, A89b, S89b, R10b, R16b, R27b, R83b, R87b, R71b, h0, k1, ↓DA ha, k2, ↓zc g1, ↓DS ha]
      exact q1
theorem c_sleepL (hN : 300 ≤ N) (ha : a = 4 ∨ a = 89) {M0 : PM} (hK : KR M0 R T hc) (hv : ∀ p, p < 6 → M0.1 3 p = nI (R (7 * p + 1)) ∧ R (7 * p + 1) < 10) {D : Nat → Nat} (hD : ∀ p, p < 6 → D p < 256) {d n : Nat} (hd : d + n < 50000) : ∀ m x (M : PM), x ≤ n → n - x < m → FS a M0 M → (∀ p, p < 6 → M.1 a p = nI (nDs T R x D d p)) → ∃ M', zfix (fun _ _ _ _ _ _ => none) (bX11_sleep_3 N) m (enc z M) z (z + a) (nI d) (nI n) (nI x) = some ((), enc z M') ∧ FS a M0 M' ∧ ∀ p, p < 6 → M'.1 a p = nI (nDs T R n D d p) := by
  intro m
  induction m with
  | zero => intro x M _ h; omega
  | succ m ih =>
    intro x M hx hm hF hr
    rw [zfix_succ, bX11_sleep_3]
    simp only [lit]
    by_cases h : x = n
    · subst h
      refine ⟨M, ?_, hF, hr⟩
      simp (disch := omega) only [↓znm_, ↓reduceIte, rn0, rn1, rbI, nle_t, nle_f, nlt_t, nlt_f, neq_t, neq_f, x_add, x_mul, x_sub, x_div, ↓x_rem, x_remN, setI_eq, setI_ne, setI_nk, setI_2, bn0, bn1, reduceCtorEq]
    · have hv' : ∀ p, p < 6 → M.1 3 p = nI (R (7 * p + 1)) ∧ R (7 * p + 1) < 10 := fun p hp => by rw [hF.2 3 p (by omega)]; exact hv p hp
      obtain ⟨M1, g1, g2, g3⟩ := c_sleep12 (z := z) N hN ha (KR_S ha hF hK) hv' (D := nDs T R x D d) (nDs_lt x D d hD) (d := d) (x := x) (n := n) (by omega) (zfix (fun _ _ _ _ _ _ => none) (bX11_sleep_3 N) m) N 0 M (by omega) (by have := hK.2.1; omega) FS_refl (fun p hp => by rw [if_neg (by omega)]; exact hr p hp)
      obtain ⟨M2, k1, k2, k3⟩ := ih (x + 1) M1 (by omega) (by omega) (FS_trans hF g2) (fun p hp => by rw [nDs_succ]; exact g3 p hp)
      refine ⟨M2, ?_, k2, k3⟩
      simp (disch := omega) only [↓znm_, ↓reduceIte, rn0, rn1, rbI, nle_t, nle_f, nlt_t, nlt_f, neq_t, neq_f, x_add, x_mul, x_sub, x_div, ↓x_rem, x_remN, setI_eq, setI_ne, setI_nk, setI_2, bn0, bn1, reduceCtorEq]
      rw [g1]
      exact k1
theorem c_sleep (hN : 300 ≤ N) (ha : a = 4 ∨ a = 89) {M : PM} (hK : KR M R T hc) (hv : ∀ p, p < 6 → M.1 3 p = nI (R (7 * p + 1)) ∧ R (7 * p + 1) < 10) {D : Nat → Nat} (hD : ∀ p, p < 6 → D p < 256) {d n : Nat} (hd : d < 40000) (hn : n ≤ 60) (hr : ∀ p, p < 6 → M.1 a p = nI (D p)) : ∃ M', fX11_sleep N (enc z M) z (z + a) (nI d) (nI n) = some ((), enc z M') ∧ FS a M M' ∧ ∀ p, p < 6 → M'.1 a p = nI (nDs T R n D d p) :=
  c_sleepL (z := z) N hN ha hK hv hD (by omega) N 0 M (by omega) (by omega) FS_refl hr
end
