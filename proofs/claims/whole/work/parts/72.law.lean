theorem m0_lo {k j : Nat} (h : k < 72) (h1 : k ≠ 1) (h2 : k ≠ 36) : m0I k j = 0 := by unfold m0I; rw [if_pos h, if_neg h1, if_neg h2]
theorem m0_tp {t j : Nat} (h : t < 6) : m0I (114 + 2 * t) j = if j = 0 then -1 else 0 := by unfold m0I; rw [if_neg (by omega), if_neg (by omega), if_neg (by omega), if_pos (by omega), if_pos (by omega)]
theorem q135 : ∀ i, i < 6 → Q135 i = nI (lts.getD i 0) := by decide +kernel
theorem q136 : ∀ i, i < 3 → Q136 i = nI (bgs.getD i 0) := by decide +kernel
theorem q137 : ∀ i, i < 15 → Q137 i = nI (wds.getD i 0) := by decide +kernel
theorem q138 : ∀ i, i < 7 → Q138 i = abv.getD i 0 := by decide +kernel
theorem q139 : ∀ i, i < 21 → Q139 i = nI (bds.getD i 0) := by decide +kernel
theorem q141 : ∀ i, i < 6 → Q141 i = -nI 1 := by decide +kernel
theorem IV_0 : IV M00 (fun _ => 0) (fun _ => (0, fun _ => 0)) 0 := by
  have lo : ∀ k j, k < 72 → k ≠ 1 → k ≠ 36 → M00.1 k j = nI 0 := fun k j a b c => m0_lo a b c
  refine ⟨⟨rfl, fun p hp => ⟨lo _ _ (by omega) (by omega) (by omega), lo _ _ (by omega) (by omega) (by omega), lo _ _ (by omega) (by omega) (by omega)⟩, fun p hp q hq => lo _ _ (by omega) (by omega) (by omega), rfl, fun i hi => ⟨lo _ _ (by omega) (by omega) (by omega), lo _ _ (by omega) (by omega) (by omega), lo _ _ (by omega) (by omega) (by omega)⟩, rfl, fun f hf => lo _ _ (by omega) (by omega) (by omega), rfl, rfl, rfl, rfl, fun r hr c hc => lo _ _ (by omega) (by omega) (by omega), rfl, fun r hr c hc => lo _ _ (by omega) (by omega) (by omega), rfl, fun r hr c hc => lo _ _ (by omega) (by omega) (by omega)⟩, fun j hj => rfl, ⟨Nat.zero_le _, Nat.zero_le _, Nat.zero_le _, Nat.zero_le _, Nat.zero_le _, Nat.zero_le _, Nat.zero_le _, Nat.zero_le _, fun p hp => ⟨Nat.zero_le _, Nat.zero_lt_succ 9, Nat.zero_lt_succ 255, fun q hq => Nat.zero_lt_succ 9⟩, fun i hi => absurd hi (Nat.not_lt_zero i), fun f hf => ⟨Nat.zero_lt_succ 255, Nat.zero_le _, fun _ => rfl⟩, fun r hr => absurd hr (Nat.not_lt_zero r), fun r hr => absurd hr (Nat.not_lt_zero r), fun r hr => absurd hr (Nat.not_lt_zero r)⟩, ⟨rfl, rfl, ⟨[], ⟨by decide, rfl, fun i hi => absurd hi (Nat.not_lt_zero i), fun x hx => (List.not_mem_nil hx).elim⟩, ⟨HC_nil, NF_nil⟩, rfl⟩, fun t ht => absurd ht (Nat.not_lt_zero t), ⟨q135, q136, q137⟩, by omega, fun t ht => absurd ht (Nat.not_lt_zero t)⟩, ⟨false, rfl, rfl, fun q => by cases q⟩, ⟨0, rfl, rfl, by omega, fun i hi => absurd hi (Nat.not_lt_zero i)⟩, ⟨⟨0, rfl, rfl, by omega⟩, fun i hi => rfl, q138, q139⟩, fun t ht => ⟨?_, Or.inl (q141 t ht), ⟨0, by omega, ?_, rfl, fun _ => rfl⟩, fun j hj => rfl⟩⟩
  · show m0I (114 + 2 * t) 0 = Q141 t
    rw [m0_tp ht, q141 t ht]; rfl
  · show m0I (114 + 2 * t) 1 = nI 0
    rw [m0_tp ht]; rfl
section
variable {L : Nat} {xs : Nat → Int32} {k : Nat}
theorem XE (c : Nat) (hk : k + c < L) (hL : L ≤ 3072) {β : Type} {f : Int32 → Option β} : (zXe L xs (nI k + nI c)).bind f = f (xs (k + c)) := by
  have e : zXe L xs (nI k + nI c) = some (xs (k + c)) := by
    rw [x_add]
    unfold zXe
    rw [if_pos (nin hk (by omega)), nclamp (by omega)]
  rw [e]; rfl
theorem XE0 (hk : k + 6 ≤ L) (hL : L ≤ 3072) {β : Type} {f : Int32 → Option β} : (zXe L xs (nI k)).bind f = f (xs k) := by
  have e : zXe L xs (nI k) = some (xs k) := by
    unfold zXe
    rw [if_pos (nin (by omega) (by omega)), nclamp (by omega)]
  rw [e]; rfl
theorem XE1 (hk : k + 6 ≤ L) (hL : L ≤ 3072) {β : Type} {f : Int32 → Option β} : (zXe L xs (nI k + (1 : Int32))).bind f = f (xs (k + 1)) := XE 1 (by omega) hL
theorem XE2 (hk : k + 6 ≤ L) (hL : L ≤ 3072) {β : Type} {f : Int32 → Option β} : (zXe L xs (nI k + (2 : Int32))).bind f = f (xs (k + 2)) := XE 2 (by omega) hL
theorem XE3 (hk : k + 6 ≤ L) (hL : L ≤ 3072) {β : Type} {f : Int32 → Option β} : (zXe L xs (nI k + (3 : Int32))).bind f = f (xs (k + 3)) := XE 3 (by omega) hL
theorem XE4 (hk : k + 6 ≤ L) (hL : L ≤ 3072) {β : Type} {f : Int32 → Option β} : (zXe L xs (nI k + (4 : Int32))).bind f = f (xs (k + 4)) := XE 4 (by omega) hL
theorem XE5 (hk : k + 6 ≤ L) (hL : L ≤ 3072) {β : Type} {f : Int32 → Option β} : (zXe L xs (nI k + (5 : Int32))).bind f = f (xs (k + 5)) := XE 5 (by omega) hL
theorem lgs (x : Int64) : (lg_cmp x x = 0) = True := by
  unfold lg_cmp
  rw [if_neg (fun q => Int64.lt_irrefl q), if_pos rfl]; exact eq_true rfl
theorem nlast (hk : k + 6 ≤ L) (hL : L ≤ 3072) : ¬ (Int32.ofNat L - (6 : Int32)) < nI k := by
  intro q
  have q : nI L - nI 6 < nI k := q
  rw [x_sub (by omega)] at q
  have := (nlt (by omega) (by omega)).mp q
  omega
theorem last (hk : L < k + 6) (hk2 : k ≤ 3072) (hL : L ≤ 3072) : (Int32.ofNat L - (6 : Int32)) < nI k := by
  show nI L - nI 6 < nI k
  rw [Int32.lt_iff_toInt_lt, Int32.toInt_sub, nI_i (a := L) (by omega), nI_i (a := 6) (by omega), nI_i (a := k) (by omega), Int.bmod_eq_of_le (by omega) (by omega)]
  omega
end
section
variable {z : Nat} (N : Nat) {M : PM} {R : Nat → Nat} {T : TT} {hc : Nat} {L : Nat} {xs : Nat → Int32} {k : Nat}
def SL (z N L : Nat) (xs : Nat → Int32) (k : Nat) (M : PM) : Prop := ∀ r18 : AH → Nat → Nat → Int32 → Option (Int32 × AH), ∃ M', (∃ R T hc, IV M' R T hc) ∧ bL_law_18 L xs N r18 (enc z M) z (z + 126) (nI k) = r18 (enc z M') z (z + 126) (nI (k + 6))
theorem ne_n {y : Int32} {n j : Nat} (h : y = nI n) (hj : j < n) (hn : n < 100) : ¬ y = nI j := fun q => by
  rw [h] at q
  have := (neq (by omega) (by omega)).mp q
  omega
theorem lc_0 (hN : 300 ≤ N) (hI : IV M R T hc) (hL : L ≤ 3072) (hk : k + 6 ≤ L) (h : xs k &&& (63 : Int32) = nI 0) : SL z N L xs k M := by
  intro r18
  obtain ⟨r, M1, M2, e1, e2, hI2⟩ := s_master (z := z) N hN hI (xs (k + 1)) (xs (k + 2))
  have e1 : fX11_master N (enc z M) z (xs (k + 1)) (xs (k + 2)) = some (r, enc z M1) := e1
  have e2 : fX12_master N (enc z M1) (z + 126) (xs (k + 1)) (xs (k + 2)) = some (r, enc z M2) := e2
  refine ⟨M2, hI2, ?_⟩
  rw [bL_law_18]
  refine (if_neg (nlast hk hL)).trans ?_
  rw [XE0 hk hL, znm_]
  refine (if_pos h).trans ?_
  rw [XE1 hk hL, XE2 hk hL, O0b, zc e1, XE1 hk hL, XE2 hk hL, O126b, zc e2, if_pos rfl, show nI k + (6 : Int32) = nI (k + 6) from x_add k 6]
theorem lc_1 (hN : 300 ≤ N) (hI : IV M R T hc) (hL : L ≤ 3072) (hk : k + 6 ≤ L) (h : xs k &&& (63 : Int32) = nI 1) : SL z N L xs k M := by
  intro r18
  obtain ⟨r, M1, M2, e1, e2, hI2⟩ := s_of (z := z) N hN hI (xs (k + 1)) (xs (k + 2))
  have e1 : fX11_of N (enc z M) z (xs (k + 1)) (xs (k + 2)) = some (r, enc z M1) := e1
  have e2 : fX12_of N (enc z M1) (z + 126) (xs (k + 1)) (xs (k + 2)) = some (r, enc z M2) := e2
  refine ⟨M2, hI2, ?_⟩
  rw [bL_law_18]
  refine (if_neg (nlast hk hL)).trans ?_
  rw [XE0 hk hL, znm_]
  refine (if_neg (ne_n (j := 0) h (by omega) (by omega))).trans ?_
  refine (if_pos h).trans ?_
  rw [XE1 hk hL, XE2 hk hL, O0b, zc e1, XE1 hk hL, XE2 hk hL, O126b, zc e2, if_pos rfl, show nI k + (6 : Int32) = nI (k + 6) from x_add k 6]
theorem lc_2 (hN : 300 ≤ N) (hI : IV M R T hc) (hL : L ≤ 3072) (hk : k + 6 ≤ L) (h : xs k &&& (63 : Int32) = nI 2) : SL z N L xs k M := by
  intro r18
  obtain ⟨r, M1, M2, e1, e2, hI2⟩ := s_grip (z := z) N hN hI (xs (k + 1)) (xs (k + 2)) (xs (k + 3))
  have e1 : fX11_grip N (enc z M) z (xs (k + 1)) (xs (k + 2)) (xs (k + 3)) = some (r, enc z M1) := e1
  have e2 : fX12_grip N (enc z M1) (z + 126) (xs (k + 1)) (xs (k + 2)) (xs (k + 3)) = some (r, enc z M2) := e2
  refine ⟨M2, hI2, ?_⟩
  rw [bL_law_18]
  refine (if_neg (nlast hk hL)).trans ?_
  rw [XE0 hk hL, znm_]
  refine (if_neg (ne_n (j := 0) h (by omega) (by omega))).trans ?_
  refine (if_neg (ne_n (j := 1) h (by omega) (by omega))).trans ?_
  refine (if_pos h).trans ?_
  rw [XE1 hk hL, XE2 hk hL, XE3 hk hL, O0b, zc e1, XE1 hk hL, XE2 hk hL, XE3 hk hL, O126b, zc e2, if_pos rfl, show nI k + (6 : Int32) = nI (k + 6) from x_add k 6]
theorem lc_3 (hN : 300 ≤ N) (hI : IV M R T hc) (hL : L ≤ 3072) (hk : k + 6 ≤ L) (h : xs k &&& (63 : Int32) = nI 3) : SL z N L xs k M := by
  intro r18
  obtain ⟨r, M1, M2, e1, e2, hI2⟩ := s_tell (z := z) N hI (xs (k + 1)) (xs (k + 2))
  have e1 : fX11_tell N (enc z M) z (xs (k + 1)) (xs (k + 2)) = some (r, enc z M1) := e1
  have e2 : fX12_tell N (enc z M1) (z + 126) (xs (k + 1)) (xs (k + 2)) = some (r, enc z M2) := e2
  refine ⟨M2, hI2, ?_⟩
  rw [bL_law_18]
  refine (if_neg (nlast hk hL)).trans ?_
  rw [XE0 hk hL, znm_]
  refine (if_neg (ne_n (j := 0) h (by omega) (by omega))).trans ?_
  refine (if_neg (ne_n (j := 1) h (by omega) (by omega))).trans ?_
  refine (if_neg (ne_n (j := 2) h (by omega) (by omega))).trans ?_
  refine (if_pos h).trans ?_
  rw [XE1 hk hL, XE2 hk hL, O0b, zc e1, XE1 hk hL, XE2 hk hL, O126b, zc e2, if_pos rfl, show nI k + (6 : Int32) = nI (k + 6) from x_add k 6]
theorem lc_4 (hN : 300 ≤ N) (hI : IV M R T hc) (hL : L ≤ 3072) (hk : k + 6 ≤ L) (h : xs k &&& (63 : Int32) = nI 4) : SL z N L xs k M := by
  intro r18
  obtain ⟨r, M1, M2, e1, e2, hI2⟩ := s_mind (z := z) N hI (xs (k + 1)) (xs (k + 2))
  have e1 : fX11_mind N (enc z M) z (xs (k + 1)) (xs (k + 2)) = some (r, enc z M1) := e1
  have e2 : fX12_mind N (enc z M1) (z + 126) (xs (k + 1)) (xs (k + 2)) = some (r, enc z M2) := e2
  refine ⟨M2, hI2, ?_⟩
  rw [bL_law_18]
  refine (if_neg (nlast hk hL)).trans ?_
  rw [XE0 hk hL, znm_]
  refine (if_neg (ne_n (j := 0) h (by omega) (by omega))).trans ?_
  refine (if_neg (ne_n (j := 1) h (by omega) (by omega))).trans ?_
  refine (if_neg (ne_n (j := 2) h (by omega) (by omega))).trans ?_
  refine (if_neg (ne_n (j := 3) h (by omega) (by omega))).trans ?_
  refine (if_pos h).trans ?_
  rw [XE1 hk hL, XE2 hk hL, O0b, zc e1, XE1 hk hL, XE2 hk hL, O126b, zc e2, if_pos rfl, show nI k + (6 : Int32) = nI (k + 6) from x_add k 6]
theorem lc_5 (hN : 300 ≤ N) (hI : IV M R T hc) (hL : L ≤ 3072) (hk : k + 6 ≤ L) (h : xs k &&& (63 : Int32) = nI 5) : SL z N L xs k M := by
  intro r18
  obtain ⟨r, M1, M2, e1, e2, hI2⟩ := s_deed (z := z) N hI (xs (k + 1)) (xs (k + 2)) (xs (k + 3))
  have e1 : fX11_deed N (enc z M) z (xs (k + 1)) (xs (k + 2)) (xs (k + 3)) = some (r, enc z M1) := e1
  have e2 : fX12_deed N (enc z M1) (z + 126) (xs (k + 1)) (xs (k + 2)) (xs (k + 3)) = some (r, enc z M2) := e2
  refine ⟨M2, hI2, ?_⟩
  rw [bL_law_18]
  refine (if_neg (nlast hk hL)).trans ?_
  rw [XE0 hk hL, znm_]
  refine (if_neg (ne_n (j := 0) h (by omega) (by omega))).trans ?_
  refine (if_neg (ne_n (j := 1) h (by omega) (by omega))).trans ?_
  refine (if_neg (ne_n (j := 2) h (by omega) (by omega))).trans ?_
  refine (if_neg (ne_n (j := 3) h (by omega) (by omega))).trans ?_
  refine (if_neg (ne_n (j := 4) h (by omega) (by omega))).trans ?_
  refine (if_pos h).trans ?_
  rw [XE1 hk hL, XE2 hk hL, XE3 hk hL, O0b, zc e1, XE1 hk hL, XE2 hk hL, XE3 hk hL, O126b, zc e2, if_pos rfl, show nI k + (6 : Int32) = nI (k + 6) from x_add k 6]
theorem lc_6 (hN : 300 ≤ N) (hI : IV M R T hc) (hL : L ≤ 3072) (hk : k + 6 ≤ L) (h : xs k &&& (63 : Int32) = nI 6) : SL z N L xs k M := by
  intro r18
  obtain ⟨r, M1, M2, e1, e2, hI2⟩ := s_footman (z := z) N hI (xs (k + 1))
  have e1 : fX11_footman N (enc z M) z (xs (k + 1)) = some (r, enc z M1) := e1
  have e2 : fX12_footman N (enc z M1) (z + 126) (xs (k + 1)) = some (r, enc z M2) := e2
  refine ⟨M2, hI2, ?_⟩
  rw [bL_law_18]
  refine (if_neg (nlast hk hL)).trans ?_
  rw [XE0 hk hL, znm_]
  refine (if_neg (ne_n (j := 0) h (by omega) (by omega))).trans ?_
  refine (if_neg (ne_n (j := 1) h (by omega) (by omega))).trans ?_
  refine (if_neg (ne_n (j := 2) h (by omega) (by omega))).trans ?_
  refine (if_neg (ne_n (j := 3) h (by omega) (by omega))).trans ?_
  refine (if_neg (ne_n (j := 4) h (by omega) (by omega))).trans ?_
  refine (if_neg (ne_n (j := 5) h (by omega) (by omega))).trans ?_
  refine (if_pos h).trans ?_
  rw [XE1 hk hL, O0b, zc e1, XE1 hk hL, O126b, zc e2, if_pos rfl, show nI k + (6 : Int32) = nI (k + 6) from x_add k 6]
theorem lc_7 (hN : 300 ≤ N) (hI : IV M R T hc) (hL : L ≤ 3072) (hk : k + 6 ≤ L) (h : xs k &&& (63 : Int32) = nI 7) : SL z N L xs k M := by
  intro r18
  by_cases hf : xs (k + 2) = (0 : Int32)
  · obtain ⟨r, M1, M2, e1, e2, hI2⟩ := s_out (z := z) N hI (xs (k + 1)) (0 : Int32)
    have e1 : fX11_out N (enc z M) z (xs (k + 1)) (0 : Int32) = some (r, enc z M1) := e1
    have e2 : fX12_out N (enc z M1) (z + 126) (xs (k + 1)) (0 : Int32) = some (r, enc z M2) := e2
    refine ⟨M2, hI2, ?_⟩
    rw [bL_law_18]
    refine (if_neg (nlast hk hL)).trans ?_
    rw [XE0 hk hL, znm_]
    refine (if_neg (ne_n (j := 0) h (by omega) (by omega))).trans ?_
    refine (if_neg (ne_n (j := 1) h (by omega) (by omega))).trans ?_
    refine (if_neg (ne_n (j := 2) h (by omega) (by omega))).trans ?_
    refine (if_neg (ne_n (j := 3) h (by omega) (by omega))).trans ?_
    refine (if_neg (ne_n (j := 4) h (by omega) (by omega))).trans ?_
    refine (if_neg (ne_n (j := 5) h (by omega) (by omega))).trans ?_
    refine (if_neg (ne_n (j := 6) h (by omega) (by omega))).trans ?_
    refine (if_pos h).trans ?_
    rw [XE1 hk hL, XE2 hk hL]
    refine (if_pos hf).trans ?_
    rw [bL_law_452, O0b, zc e1, XE1 hk hL, XE2 hk hL]
    refine (if_pos hf).trans ?_
    rw [O126b, zc e2, if_pos rfl, show nI k + (6 : Int32) = nI (k + 6) from x_add k 6]
  · obtain ⟨r, M1, M2, e1, e2, hI2⟩ := s_out (z := z) N hI (xs (k + 1)) (1 : Int32)
    have e1 : fX11_out N (enc z M) z (xs (k + 1)) (1 : Int32) = some (r, enc z M1) := e1
    have e2 : fX12_out N (enc z M1) (z + 126) (xs (k + 1)) (1 : Int32) = some (r, enc z M2) := e2
    refine ⟨M2, hI2, ?_⟩
    rw [bL_law_18]
    refine (if_neg (nlast hk hL)).trans ?_
    rw [XE0 hk hL, znm_]
    refine (if_neg (ne_n (j := 0) h (by omega) (by omega))).trans ?_
    refine (if_neg (ne_n (j := 1) h (by omega) (by omega))).trans ?_
    refine (if_neg (ne_n (j := 2) h (by omega) (by omega))).trans ?_
    refine (if_neg (ne_n (j := 3) h (by omega) (by omega))).trans ?_
    refine (if_neg (ne_n (j := 4) h (by omega) (by omega))).trans ?_
    refine (if_neg (ne_n (j := 5) h (by omega) (by omega))).trans ?_
    refine (if_neg (ne_n (j := 6) h (by omega) (by omega))).trans ?_
    refine (if_pos h).trans ?_
    rw [XE1 hk hL, XE2 hk hL]
    refine (if_neg hf).trans ?_
    rw [bL_law_452, O0b, zc e1, XE1 hk hL, XE2 hk hL]
    refine (if_neg hf).trans ?_
    rw [O126b, zc e2, if_pos rfl, show nI k + (6 : Int32) = nI (k + 6) from x_add k 6]
theorem lc_8 (hN : 300 ≤ N) (hI : IV M R T hc) (hL : L ≤ 3072) (hk : k + 6 ≤ L) (h : xs k &&& (63 : Int32) = nI 8) : SL z N L xs k M := by
  intro r18
  obtain ⟨r, M1, M2, e1, e2, hI2⟩ := s_lost (z := z) N hN hI (xs (k + 1))
  have e1 : fX11_lost N (enc z M) z (xs (k + 1)) = some (r, enc z M1) := e1
  have e2 : fX12_lost N (enc z M1) (z + 126) (xs (k + 1)) = some (r, enc z M2) := e2
  refine ⟨M2, hI2, ?_⟩
  rw [bL_law_18]
  refine (if_neg (nlast hk hL)).trans ?_
  rw [XE0 hk hL, znm_]
  refine (if_neg (ne_n (j := 0) h (by omega) (by omega))).trans ?_
  refine (if_neg (ne_n (j := 1) h (by omega) (by omega))).trans ?_
  refine (if_neg (ne_n (j := 2) h (by omega) (by omega))).trans ?_
  refine (if_neg (ne_n (j := 3) h (by omega) (by omega))).trans ?_
  refine (if_neg (ne_n (j := 4) h (by omega) (by omega))).trans ?_
  refine (if_neg (ne_n (j := 5) h (by omega) (by omega))).trans ?_
  refine (if_neg (ne_n (j := 6) h (by omega) (by omega))).trans ?_
  refine (if_neg (ne_n (j := 7) h (by omega) (by omega))).trans ?_
  refine (if_pos h).trans ?_
  rw [XE1 hk hL, O0b, zc e1, XE1 hk hL, O126b, zc e2, if_pos rfl, show nI k + (6 : Int32) = nI (k + 6) from x_add k 6]
theorem lc_9 (hN : 300 ≤ N) (hI : IV M R T hc) (hL : L ≤ 3072) (hk : k + 6 ≤ L) (h : xs k &&& (63 : Int32) = nI 9) : SL z N L xs k M := by
  intro r18
  obtain ⟨r, M1, M2, e1, e2, hI2⟩ := s_row (z := z) N hI (xs (k + 1)) (xs (k + 2)) (xs (k + 3))
  have e1 : fX11_row N (enc z M) z (xs (k + 1)) (xs (k + 2)) (xs (k + 3)) = some (r, enc z M1) := e1
  have e2 : fX12_row N (enc z M1) (z + 126) (xs (k + 1)) (xs (k + 2)) (xs (k + 3)) = some (r, enc z M2) := e2
  refine ⟨M2, hI2, ?_⟩
  rw [bL_law_18]
  refine (if_neg (nlast hk hL)).trans ?_
  rw [XE0 hk hL, znm_]
  refine (if_neg (ne_n (j := 0) h (by omega) (by omega))).trans ?_
  refine (if_neg (ne_n (j := 1) h (by omega) (by omega))).trans ?_
  refine (if_neg (ne_n (j := 2) h (by omega) (by omega))).trans ?_
  refine (if_neg (ne_n (j := 3) h (by omega) (by omega))).trans ?_
  refine (if_neg (ne_n (j := 4) h (by omega) (by omega))).trans ?_
  refine (if_neg (ne_n (j := 5) h (by omega) (by omega))).trans ?_
  refine (if_neg (ne_n (j := 6) h (by omega) (by omega))).trans ?_
  refine (if_neg (ne_n (j := 7) h (by omega) (by omega))).trans ?_
  refine (if_neg (ne_n (j := 8) h (by omega) (by omega))).trans ?_
  refine (if_pos h).trans ?_
  rw [XE1 hk hL, XE2 hk hL, XE3 hk hL, O0b, zc e1, XE1 hk hL, XE2 hk hL, XE3 hk hL, O126b, zc e2, if_pos rfl, show nI k + (6 : Int32) = nI (k + 6) from x_add k 6]
theorem lc_10 (hN : 300 ≤ N) (hI : IV M R T hc) (hL : L ≤ 3072) (hk : k + 6 ≤ L) (h : xs k &&& (63 : Int32) = nI 10) : SL z N L xs k M := by
  intro r18
  obtain ⟨r, M1, M2, e1, e2, hI2⟩ := s_feed (z := z) N hI (xs (k + 1))
  have e1 : fX11_feed N (enc z M) z (xs (k + 1)) = some (r, enc z M1) := e1
  have e2 : fX12_feed N (enc z M1) (z + 126) (xs (k + 1)) = some (r, enc z M2) := e2
  refine ⟨M2, hI2, ?_⟩
  rw [bL_law_18]
  refine (if_neg (nlast hk hL)).trans ?_
  rw [XE0 hk hL, znm_]
  refine (if_neg (ne_n (j := 0) h (by omega) (by omega))).trans ?_
  refine (if_neg (ne_n (j := 1) h (by omega) (by omega))).trans ?_
  refine (if_neg (ne_n (j := 2) h (by omega) (by omega))).trans ?_
  refine (if_neg (ne_n (j := 3) h (by omega) (by omega))).trans ?_
  refine (if_neg (ne_n (j := 4) h (by omega) (by omega))).trans ?_
  refine (if_neg (ne_n (j := 5) h (by omega) (by omega))).trans ?_
  refine (if_neg (ne_n (j := 6) h (by omega) (by omega))).trans ?_
  refine (if_neg (ne_n (j := 7) h (by omega) (by omega))).trans ?_
  refine (if_neg (ne_n (j := 8) h (by omega) (by omega))).trans ?_
  refine (if_neg (ne_n (j := 9) h (by omega) (by omega))).trans ?_
  refine (if_pos h).trans ?_
  rw [XE1 hk hL, O0b, zc e1, XE1 hk hL, O126b, zc e2, if_pos rfl, show nI k + (6 : Int32) = nI (k + 6) from x_add k 6]
theorem lc_11 (hN : 300 ≤ N) (hI : IV M R T hc) (hL : L ≤ 3072) (hk : k + 6 ≤ L) (h : xs k &&& (63 : Int32) = nI 11) : SL z N L xs k M := by
  intro r18
  obtain ⟨r, M1, M2, e1, e2, hI2⟩ := s_house (z := z) N hN hI
  have e1 : fX11_house N (enc z M) z = some (r, enc z M1) := e1
  have e2 : fX12_house N (enc z M1) (z + 126) = some (r, enc z M2) := e2
  refine ⟨M2, hI2, ?_⟩
  rw [bL_law_18]
  refine (if_neg (nlast hk hL)).trans ?_
  rw [XE0 hk hL, znm_]
  refine (if_neg (ne_n (j := 0) h (by omega) (by omega))).trans ?_
  refine (if_neg (ne_n (j := 1) h (by omega) (by omega))).trans ?_
  refine (if_neg (ne_n (j := 2) h (by omega) (by omega))).trans ?_
  refine (if_neg (ne_n (j := 3) h (by omega) (by omega))).trans ?_
  refine (if_neg (ne_n (j := 4) h (by omega) (by omega))).trans ?_
  refine (if_neg (ne_n (j := 5) h (by omega) (by omega))).trans ?_
  refine (if_neg (ne_n (j := 6) h (by omega) (by omega))).trans ?_
  refine (if_neg (ne_n (j := 7) h (by omega) (by omega))).trans ?_
  refine (if_neg (ne_n (j := 8) h (by omega) (by omega))).trans ?_
  refine (if_neg (ne_n (j := 9) h (by omega) (by omega))).trans ?_
  refine (if_neg (ne_n (j := 10) h (by omega) (by omega))).trans ?_
  refine (if_pos h).trans ?_
  rw [O0b, zc e1, O126b, zc e2, if_pos rfl, show nI k + (6 : Int32) = nI (k + 6) from x_add k 6]
theorem lc_12 (hN : 300 ≤ N) (hI : IV M R T hc) (hL : L ≤ 3072) (hk : k + 6 ≤ L) (h : xs k &&& (63 : Int32) = nI 12) : SL z N L xs k M := by
  intro r18
  obtain ⟨r, M1, M2, e1, e2, hI2⟩ := s_told (z := z) N hN hI (xs (k + 1))
  have e1 : fX11_told N (enc z M) z (xs (k + 1)) = some (r, enc z M1) := e1
  have e2 : fX12_told N (enc z M1) (z + 126) (xs (k + 1)) = some (r, enc z M2) := e2
  refine ⟨M2, hI2, ?_⟩
  rw [bL_law_18]
  refine (if_neg (nlast hk hL)).trans ?_
  rw [XE0 hk hL, znm_]
  refine (if_neg (ne_n (j := 0) h (by omega) (by omega))).trans ?_
  refine (if_neg (ne_n (j := 1) h (by omega) (by omega))).trans ?_
  refine (if_neg (ne_n (j := 2) h (by omega) (by omega))).trans ?_
  refine (if_neg (ne_n (j := 3) h (by omega) (by omega))).trans ?_
  refine (if_neg (ne_n (j := 4) h (by omega) (by omega))).trans ?_
  refine (if_neg (ne_n (j := 5) h (by omega) (by omega))).trans ?_
  refine (if_neg (ne_n (j := 6) h (by omega) (by omega))).trans ?_
  refine (if_neg (ne_n (j := 7) h (by omega) (by omega))).trans ?_
  refine (if_neg (ne_n (j := 8) h (by omega) (by omega))).trans ?_
  refine (if_neg (ne_n (j := 9) h (by omega) (by omega))).trans ?_
  refine (if_neg (ne_n (j := 10) h (by omega) (by omega))).trans ?_
  refine (if_neg (ne_n (j := 11) h (by omega) (by omega))).trans ?_
  refine (if_pos h).trans ?_
  rw [XE1 hk hL, O0b, zc e1, XE1 hk hL, O126b, zc e2, if_pos rfl, show nI k + (6 : Int32) = nI (k + 6) from x_add k 6]
theorem lc_13 (hN : 300 ≤ N) (hI : IV M R T hc) (hL : L ≤ 3072) (hk : k + 6 ≤ L) (h : xs k &&& (63 : Int32) = nI 13) : SL z N L xs k M := by
  intro r18
  obtain ⟨r, M1, M2, e1, e2, hI2⟩ := s_pass (z := z) N hN hI (xs (k + 1))
  have e1 : fX11_pass N (enc z M) z (xs (k + 1)) = some (r, enc z M1) := e1
  have e2 : fX12_pass N (enc z M1) (z + 126) (xs (k + 1)) = some (r, enc z M2) := e2
  refine ⟨M2, hI2, ?_⟩
  rw [bL_law_18]
  refine (if_neg (nlast hk hL)).trans ?_
  rw [XE0 hk hL, znm_]
  refine (if_neg (ne_n (j := 0) h (by omega) (by omega))).trans ?_
  refine (if_neg (ne_n (j := 1) h (by omega) (by omega))).trans ?_
  refine (if_neg (ne_n (j := 2) h (by omega) (by omega))).trans ?_
  refine (if_neg (ne_n (j := 3) h (by omega) (by omega))).trans ?_
  refine (if_neg (ne_n (j := 4) h (by omega) (by omega))).trans ?_
  refine (if_neg (ne_n (j := 5) h (by omega) (by omega))).trans ?_
  refine (if_neg (ne_n (j := 6) h (by omega) (by omega))).trans ?_
  refine (if_neg (ne_n (j := 7) h (by omega) (by omega))).trans ?_
  refine (if_neg (ne_n (j := 8) h (by omega) (by omega))).trans ?_
  refine (if_neg (ne_n (j := 9) h (by omega) (by omega))).trans ?_
  refine (if_neg (ne_n (j := 10) h (by omega) (by omega))).trans ?_
  refine (if_neg (ne_n (j := 11) h (by omega) (by omega))).trans ?_
  refine (if_neg (ne_n (j := 12) h (by omega) (by omega))).trans ?_
  refine (if_pos h).trans ?_
  rw [XE1 hk hL, O0b, zc e1, XE1 hk hL, O126b, zc e2, if_pos rfl, show nI k + (6 : Int32) = nI (k + 6) from x_add k 6]
theorem lc_14 (hN : 300 ≤ N) (hI : IV M R T hc) (hL : L ≤ 3072) (hk : k + 6 ≤ L) (h : xs k &&& (63 : Int32) = nI 14) : SL z N L xs k M := by
  intro r18
  obtain ⟨r, M1, M2, e1, e2, hI2⟩ := s_on (z := z) N hN hI (xs (k + 1)) (xs (k + 2))
  have e1 : fX11_on N (enc z M) z (xs (k + 1)) (xs (k + 2)) = some (r, enc z M1) := e1
  have e2 : fX12_on N (enc z M1) (z + 126) (xs (k + 1)) (xs (k + 2)) = some (r, enc z M2) := e2
  refine ⟨M2, hI2, ?_⟩
  rw [bL_law_18]
  refine (if_neg (nlast hk hL)).trans ?_
  rw [XE0 hk hL, znm_]
  refine (if_neg (ne_n (j := 0) h (by omega) (by omega))).trans ?_
  refine (if_neg (ne_n (j := 1) h (by omega) (by omega))).trans ?_
  refine (if_neg (ne_n (j := 2) h (by omega) (by omega))).trans ?_
  refine (if_neg (ne_n (j := 3) h (by omega) (by omega))).trans ?_
  refine (if_neg (ne_n (j := 4) h (by omega) (by omega))).trans ?_
  refine (if_neg (ne_n (j := 5) h (by omega) (by omega))).trans ?_
  refine (if_neg (ne_n (j := 6) h (by omega) (by omega))).trans ?_
  refine (if_neg (ne_n (j := 7) h (by omega) (by omega))).trans ?_
  refine (if_neg (ne_n (j := 8) h (by omega) (by omega))).trans ?_
  refine (if_neg (ne_n (j := 9) h (by omega) (by omega))).trans ?_
  refine (if_neg (ne_n (j := 10) h (by omega) (by omega))).trans ?_
  refine (if_neg (ne_n (j := 11) h (by omega) (by omega))).trans ?_
  refine (if_neg (ne_n (j := 12) h (by omega) (by omega))).trans ?_
  refine (if_neg (ne_n (j := 13) h (by omega) (by omega))).trans ?_
  refine (if_pos h).trans ?_
  rw [XE1 hk hL, XE2 hk hL, O0b, zc e1, XE1 hk hL, XE2 hk hL, O126b, zc e2, if_pos rfl, show nI k + (6 : Int32) = nI (k + 6) from x_add k 6]
theorem lc_15 (hN : 300 ≤ N) (hI : IV M R T hc) (hL : L ≤ 3072) (hk : k + 6 ≤ L) (h : xs k &&& (63 : Int32) = nI 15) : SL z N L xs k M := by
  intro r18
  by_cases hf : xs (k + 4) = (0 : Int32)
  · obtain ⟨r, M1, M2, e1, e2, hI2⟩ := s_see (z := z) N hI (xs (k + 1)) (xs (k + 2)) (xs (k + 3)) (0 : Int32)
    have e1 : fX11_see N (enc z M) z (xs (k + 1)) (xs (k + 2)) (xs (k + 3)) (0 : Int32) = some (r, enc z M1) := e1
    have e2 : fX12_see N (enc z M1) (z + 126) (xs (k + 1)) (xs (k + 2)) (xs (k + 3)) (0 : Int32) = some (r, enc z M2) := e2
    refine ⟨M2, hI2, ?_⟩
    rw [bL_law_18]
    refine (if_neg (nlast hk hL)).trans ?_
    rw [XE0 hk hL, znm_]
    refine (if_neg (ne_n (j := 0) h (by omega) (by omega))).trans ?_
    refine (if_neg (ne_n (j := 1) h (by omega) (by omega))).trans ?_
    refine (if_neg (ne_n (j := 2) h (by omega) (by omega))).trans ?_
    refine (if_neg (ne_n (j := 3) h (by omega) (by omega))).trans ?_
    refine (if_neg (ne_n (j := 4) h (by omega) (by omega))).trans ?_
    refine (if_neg (ne_n (j := 5) h (by omega) (by omega))).trans ?_
    refine (if_neg (ne_n (j := 6) h (by omega) (by omega))).trans ?_
    refine (if_neg (ne_n (j := 7) h (by omega) (by omega))).trans ?_
    refine (if_neg (ne_n (j := 8) h (by omega) (by omega))).trans ?_
    refine (if_neg (ne_n (j := 9) h (by omega) (by omega))).trans ?_
    refine (if_neg (ne_n (j := 10) h (by omega) (by omega))).trans ?_
    refine (if_neg (ne_n (j := 11) h (by omega) (by omega))).trans ?_
    refine (if_neg (ne_n (j := 12) h (by omega) (by omega))).trans ?_
    refine (if_neg (ne_n (j := 13) h (by omega) (by omega))).trans ?_
    refine (if_neg (ne_n (j := 14) h (by omega) (by omega))).trans ?_
    refine (if_pos h).trans ?_
    rw [XE1 hk hL, XE2 hk hL, XE3 hk hL, XE4 hk hL]
    refine (if_pos hf).trans ?_
    rw [bL_law_692, O0b, zc e1, XE1 hk hL, XE2 hk hL, XE3 hk hL, XE4 hk hL]
    refine (if_pos hf).trans ?_
    rw [O126b, zc e2, if_pos rfl, show nI k + (6 : Int32) = nI (k + 6) from x_add k 6]
  · obtain ⟨r, M1, M2, e1, e2, hI2⟩ := s_see (z := z) N hI (xs (k + 1)) (xs (k + 2)) (xs (k + 3)) (1 : Int32)
    have e1 : fX11_see N (enc z M) z (xs (k + 1)) (xs (k + 2)) (xs (k + 3)) (1 : Int32) = some (r, enc z M1) := e1
    have e2 : fX12_see N (enc z M1) (z + 126) (xs (k + 1)) (xs (k + 2)) (xs (k + 3)) (1 : Int32) = some (r, enc z M2) := e2
    refine ⟨M2, hI2, ?_⟩
    rw [bL_law_18]
    refine (if_neg (nlast hk hL)).trans ?_
    rw [XE0 hk hL, znm_]
    refine (if_neg (ne_n (j := 0) h (by omega) (by omega))).trans ?_
    refine (if_neg (ne_n (j := 1) h (by omega) (by omega))).trans ?_
    refine (if_neg (ne_n (j := 2) h (by omega) (by omega))).trans ?_
    refine (if_neg (ne_n (j := 3) h (by omega) (by omega))).trans ?_
    refine (if_neg (ne_n (j := 4) h (by omega) (by omega))).trans ?_
    refine (if_neg (ne_n (j := 5) h (by omega) (by omega))).trans ?_
    refine (if_neg (ne_n (j := 6) h (by omega) (by omega))).trans ?_
    refine (if_neg (ne_n (j := 7) h (by omega) (by omega))).trans ?_
    refine (if_neg (ne_n (j := 8) h (by omega) (by omega))).trans ?_
    refine (if_neg (ne_n (j := 9) h (by omega) (by omega))).trans ?_
    refine (if_neg (ne_n (j := 10) h (by omega) (by omega))).trans ?_
    refine (if_neg (ne_n (j := 11) h (by omega) (by omega))).trans ?_
    refine (if_neg (ne_n (j := 12) h (by omega) (by omega))).trans ?_
    refine (if_neg (ne_n (j := 13) h (by omega) (by omega))).trans ?_
    refine (if_neg (ne_n (j := 14) h (by omega) (by omega))).trans ?_
    refine (if_pos h).trans ?_
    rw [XE1 hk hL, XE2 hk hL, XE3 hk hL, XE4 hk hL]
    refine (if_neg hf).trans ?_
    rw [bL_law_692, O0b, zc e1, XE1 hk hL, XE2 hk hL, XE3 hk hL, XE4 hk hL]
    refine (if_neg hf).trans ?_
    rw [O126b, zc e2, if_pos rfl, show nI k + (6 : Int32) = nI (k + 6) from x_add k 6]
theorem lc_16 (hN : 300 ≤ N) (hI : IV M R T hc) (hL : L ≤ 3072) (hk : k + 6 ≤ L) (h : xs k &&& (63 : Int32) = nI 16) : SL z N L xs k M := by
  intro r18
  obtain ⟨r, M1, M2, e1, e2, hI2⟩ := s_wrong (z := z) N hN hI
  have e1 : fX11_wrong N (enc z M) z = some (r, enc z M1) := e1
  have e2 : fX12_wrong N (enc z M1) (z + 126) = some (r, enc z M2) := e2
  refine ⟨M2, hI2, ?_⟩
  rw [bL_law_18]
  refine (if_neg (nlast hk hL)).trans ?_
  rw [XE0 hk hL, znm_]
  refine (if_neg (ne_n (j := 0) h (by omega) (by omega))).trans ?_
  refine (if_neg (ne_n (j := 1) h (by omega) (by omega))).trans ?_
  refine (if_neg (ne_n (j := 2) h (by omega) (by omega))).trans ?_
  refine (if_neg (ne_n (j := 3) h (by omega) (by omega))).trans ?_
  refine (if_neg (ne_n (j := 4) h (by omega) (by omega))).trans ?_
  refine (if_neg (ne_n (j := 5) h (by omega) (by omega))).trans ?_
  refine (if_neg (ne_n (j := 6) h (by omega) (by omega))).trans ?_
  refine (if_neg (ne_n (j := 7) h (by omega) (by omega))).trans ?_
  refine (if_neg (ne_n (j := 8) h (by omega) (by omega))).trans ?_
  refine (if_neg (ne_n (j := 9) h (by omega) (by omega))).trans ?_
  refine (if_neg (ne_n (j := 10) h (by omega) (by omega))).trans ?_
  refine (if_neg (ne_n (j := 11) h (by omega) (by omega))).trans ?_
  refine (if_neg (ne_n (j := 12) h (by omega) (by omega))).trans ?_
  refine (if_neg (ne_n (j := 13) h (by omega) (by omega))).trans ?_
  refine (if_neg (ne_n (j := 14) h (by omega) (by omega))).trans ?_
  refine (if_neg (ne_n (j := 15) h (by omega) (by omega))).trans ?_
  refine (if_pos h).trans ?_
  rw [O0b, zc e1, O126b, zc e2, if_pos rfl, show nI k + (6 : Int32) = nI (k + 6) from x_add k 6]
theorem lc_17 (hN : 300 ≤ N) (hI : IV M R T hc) (hL : L ≤ 3072) (hk : k + 6 ≤ L) (h : xs k &&& (63 : Int32) = nI 17) : SL z N L xs k M := by
  intro r18
  obtain ⟨r, M1, M2, e1, e2, hI2⟩ := s_can (z := z) N hN hI (xs (k + 1)) (xs (k + 2))
  have e1 : fX11_can N (enc z M) z (xs (k + 1)) (xs (k + 2)) = some (r, enc z M1) := e1
  have e2 : fX12_can N (enc z M1) (z + 126) (xs (k + 1)) (xs (k + 2)) = some (r, enc z M2) := e2
  refine ⟨M2, hI2, ?_⟩
  rw [bL_law_18]
  refine (if_neg (nlast hk hL)).trans ?_
  rw [XE0 hk hL, znm_]
  refine (if_neg (ne_n (j := 0) h (by omega) (by omega))).trans ?_
  refine (if_neg (ne_n (j := 1) h (by omega) (by omega))).trans ?_
  refine (if_neg (ne_n (j := 2) h (by omega) (by omega))).trans ?_
  refine (if_neg (ne_n (j := 3) h (by omega) (by omega))).trans ?_
  refine (if_neg (ne_n (j := 4) h (by omega) (by omega))).trans ?_
  refine (if_neg (ne_n (j := 5) h (by omega) (by omega))).trans ?_
  refine (if_neg (ne_n (j := 6) h (by omega) (by omega))).trans ?_
  refine (if_neg (ne_n (j := 7) h (by omega) (by omega))).trans ?_
  refine (if_neg (ne_n (j := 8) h (by omega) (by omega))).trans ?_
  refine (if_neg (ne_n (j := 9) h (by omega) (by omega))).trans ?_
  refine (if_neg (ne_n (j := 10) h (by omega) (by omega))).trans ?_
  refine (if_neg (ne_n (j := 11) h (by omega) (by omega))).trans ?_
  refine (if_neg (ne_n (j := 12) h (by omega) (by omega))).trans ?_
  refine (if_neg (ne_n (j := 13) h (by omega) (by omega))).trans ?_
  refine (if_neg (ne_n (j := 14) h (by omega) (by omega))).trans ?_
  refine (if_neg (ne_n (j := 15) h (by omega) (by omega))).trans ?_
  refine (if_neg (ne_n (j := 16) h (by omega) (by omega))).trans ?_
  refine (if_pos h).trans ?_
  rw [XE1 hk hL, XE2 hk hL, O0b, zc e1, XE1 hk hL, XE2 hk hL, O126b, zc e2, if_pos rfl, show nI k + (6 : Int32) = nI (k + 6) from x_add k 6]
theorem lc_18 (hN : 300 ≤ N) (hI : IV M R T hc) (hL : L ≤ 3072) (hk : k + 6 ≤ L) (h : xs k &&& (63 : Int32) = nI 18) : SL z N L xs k M := by
  intro r18
  obtain ⟨r, M1, M2, e1, e2, hI2⟩ := s_knew (z := z) N hN hI (xs (k + 1)) (xs (k + 2)) (xs (k + 3)) (xs (k + 4))
  have e1 : fX11_knew N (enc z M) z (xs (k + 1)) (xs (k + 2)) (xs (k + 3)) (xs (k + 4)) = some (r, enc z M1) := e1
  have e2 : fX12_knew N (enc z M1) (z + 126) (xs (k + 1)) (xs (k + 2)) (xs (k + 3)) (xs (k + 4)) = some (r, enc z M2) := e2
  refine ⟨M2, hI2, ?_⟩
  rw [bL_law_18]
  refine (if_neg (nlast hk hL)).trans ?_
  rw [XE0 hk hL, znm_]
  refine (if_neg (ne_n (j := 0) h (by omega) (by omega))).trans ?_
  refine (if_neg (ne_n (j := 1) h (by omega) (by omega))).trans ?_
  refine (if_neg (ne_n (j := 2) h (by omega) (by omega))).trans ?_
  refine (if_neg (ne_n (j := 3) h (by omega) (by omega))).trans ?_
  refine (if_neg (ne_n (j := 4) h (by omega) (by omega))).trans ?_
  refine (if_neg (ne_n (j := 5) h (by omega) (by omega))).trans ?_
  refine (if_neg (ne_n (j := 6) h (by omega) (by omega))).trans ?_
  refine (if_neg (ne_n (j := 7) h (by omega) (by omega))).trans ?_
  refine (if_neg (ne_n (j := 8) h (by omega) (by omega))).trans ?_
  refine (if_neg (ne_n (j := 9) h (by omega) (by omega))).trans ?_
  refine (if_neg (ne_n (j := 10) h (by omega) (by omega))).trans ?_
  refine (if_neg (ne_n (j := 11) h (by omega) (by omega))).trans ?_
  refine (if_neg (ne_n (j := 12) h (by omega) (by omega))).trans ?_
  refine (if_neg (ne_n (j := 13) h (by omega) (by omega))).trans ?_
  refine (if_neg (ne_n (j := 14) h (by omega) (by omega))).trans ?_
  refine (if_neg (ne_n (j := 15) h (by omega) (by omega))).trans ?_
  refine (if_neg (ne_n (j := 16) h (by omega) (by omega))).trans ?_
  refine (if_neg (ne_n (j := 17) h (by omega) (by omega))).trans ?_
  refine (if_pos h).trans ?_
  rw [XE1 hk hL, XE2 hk hL, XE3 hk hL, XE4 hk hL, O0b, zc e1, XE1 hk hL, XE2 hk hL, XE3 hk hL, XE4 hk hL, O126b, zc e2, if_pos rfl, show nI k + (6 : Int32) = nI (k + 6) from x_add k 6]
theorem lc_19 (hN : 300 ≤ N) (hI : IV M R T hc) (hL : L ≤ 3072) (hk : k + 6 ≤ L) (h : xs k &&& (63 : Int32) = nI 19) : SL z N L xs k M := by
  intro r18
  obtain ⟨r, M1, M2, e1, e2, hI2⟩ := s_odds (z := z) N hN hI (xs (k + 1)) (xs (k + 2))
  have e1 : fX11_odds N (enc z M) z (xs (k + 1)) (xs (k + 2)) = some (r, enc z M1) := e1
  have e2 : fX12_odds N (enc z M1) (z + 126) (xs (k + 1)) (xs (k + 2)) = some (r, enc z M2) := e2
  refine ⟨M2, hI2, ?_⟩
  rw [bL_law_18]
  refine (if_neg (nlast hk hL)).trans ?_
  rw [XE0 hk hL, znm_]
  refine (if_neg (ne_n (j := 0) h (by omega) (by omega))).trans ?_
  refine (if_neg (ne_n (j := 1) h (by omega) (by omega))).trans ?_
  refine (if_neg (ne_n (j := 2) h (by omega) (by omega))).trans ?_
  refine (if_neg (ne_n (j := 3) h (by omega) (by omega))).trans ?_
  refine (if_neg (ne_n (j := 4) h (by omega) (by omega))).trans ?_
  refine (if_neg (ne_n (j := 5) h (by omega) (by omega))).trans ?_
  refine (if_neg (ne_n (j := 6) h (by omega) (by omega))).trans ?_
  refine (if_neg (ne_n (j := 7) h (by omega) (by omega))).trans ?_
  refine (if_neg (ne_n (j := 8) h (by omega) (by omega))).trans ?_
  refine (if_neg (ne_n (j := 9) h (by omega) (by omega))).trans ?_
  refine (if_neg (ne_n (j := 10) h (by omega) (by omega))).trans ?_
  refine (if_neg (ne_n (j := 11) h (by omega) (by omega))).trans ?_
  refine (if_neg (ne_n (j := 12) h (by omega) (by omega))).trans ?_
  refine (if_neg (ne_n (j := 13) h (by omega) (by omega))).trans ?_
  refine (if_neg (ne_n (j := 14) h (by omega) (by omega))).trans ?_
  refine (if_neg (ne_n (j := 15) h (by omega) (by omega))).trans ?_
  refine (if_neg (ne_n (j := 16) h (by omega) (by omega))).trans ?_
  refine (if_neg (ne_n (j := 17) h (by omega) (by omega))).trans ?_
  refine (if_neg (ne_n (j := 18) h (by omega) (by omega))).trans ?_
  refine (if_pos h).trans ?_
  rw [XE1 hk hL, XE2 hk hL, O0b, zc e1, XE1 hk hL, XE2 hk hL, O126b, zc e2]
  refine (if_pos (of_eq_true (lgs r))).trans ?_
  rw [show nI k + (6 : Int32) = nI (k + 6) from x_add k 6]
theorem lc_20 (hN : 300 ≤ N) (hI : IV M R T hc) (hL : L ≤ 3072) (hk : k + 6 ≤ L) (h : xs k &&& (63 : Int32) = nI 20) : SL z N L xs k M := by
  intro r18
  obtain ⟨r, M1, M2, e1, e2, hI2⟩ := s_mean (z := z) N hN hI (xs (k + 1)) (xs (k + 2))
  have e1 : fX11_mean N (enc z M) z (xs (k + 1)) (xs (k + 2)) = some (r, enc z M1) := e1
  have e2 : fX12_mean N (enc z M1) (z + 126) (xs (k + 1)) (xs (k + 2)) = some (r, enc z M2) := e2
  refine ⟨M2, hI2, ?_⟩
  rw [bL_law_18]
  refine (if_neg (nlast hk hL)).trans ?_
  rw [XE0 hk hL, znm_]
  refine (if_neg (ne_n (j := 0) h (by omega) (by omega))).trans ?_
  refine (if_neg (ne_n (j := 1) h (by omega) (by omega))).trans ?_
  refine (if_neg (ne_n (j := 2) h (by omega) (by omega))).trans ?_
  refine (if_neg (ne_n (j := 3) h (by omega) (by omega))).trans ?_
  refine (if_neg (ne_n (j := 4) h (by omega) (by omega))).trans ?_
  refine (if_neg (ne_n (j := 5) h (by omega) (by omega))).trans ?_
  refine (if_neg (ne_n (j := 6) h (by omega) (by omega))).trans ?_
  refine (if_neg (ne_n (j := 7) h (by omega) (by omega))).trans ?_
  refine (if_neg (ne_n (j := 8) h (by omega) (by omega))).trans ?_
  refine (if_neg (ne_n (j := 9) h (by omega) (by omega))).trans ?_
  refine (if_neg (ne_n (j := 10) h (by omega) (by omega))).trans ?_
  refine (if_neg (ne_n (j := 11) h (by omega) (by omega))).trans ?_
  refine (if_neg (ne_n (j := 12) h (by omega) (by omega))).trans ?_
  refine (if_neg (ne_n (j := 13) h (by omega) (by omega))).trans ?_
  refine (if_neg (ne_n (j := 14) h (by omega) (by omega))).trans ?_
  refine (if_neg (ne_n (j := 15) h (by omega) (by omega))).trans ?_
  refine (if_neg (ne_n (j := 16) h (by omega) (by omega))).trans ?_
  refine (if_neg (ne_n (j := 17) h (by omega) (by omega))).trans ?_
  refine (if_neg (ne_n (j := 18) h (by omega) (by omega))).trans ?_
  refine (if_neg (ne_n (j := 19) h (by omega) (by omega))).trans ?_
  refine (if_pos h).trans ?_
  rw [XE1 hk hL, XE2 hk hL, O0b, zc e1, XE1 hk hL, XE2 hk hL, O126b, zc e2]
  refine (if_pos (of_eq_true (lgs r))).trans ?_
  rw [show nI k + (6 : Int32) = nI (k + 6) from x_add k 6]
theorem lc_21 (hN : 300 ≤ N) (hI : IV M R T hc) (hL : L ≤ 3072) (hk : k + 6 ≤ L) (h : xs k &&& (63 : Int32) = nI 21) : SL z N L xs k M := by
  intro r18
  obtain ⟨r, M1, M2, e1, e2, hI2⟩ := s_plan (z := z) N hI (xs (k + 1)) (xs (k + 2))
  have e1 : fX11_plan N (enc z M) z (xs (k + 1)) (xs (k + 2)) = some (r, enc z M1) := e1
  have e2 : fX12_plan N (enc z M1) (z + 126) (xs (k + 1)) (xs (k + 2)) = some (r, enc z M2) := e2
  refine ⟨M2, hI2, ?_⟩
  rw [bL_law_18]
  refine (if_neg (nlast hk hL)).trans ?_
  rw [XE0 hk hL, znm_]
  refine (if_neg (ne_n (j := 0) h (by omega) (by omega))).trans ?_
  refine (if_neg (ne_n (j := 1) h (by omega) (by omega))).trans ?_
  refine (if_neg (ne_n (j := 2) h (by omega) (by omega))).trans ?_
  refine (if_neg (ne_n (j := 3) h (by omega) (by omega))).trans ?_
  refine (if_neg (ne_n (j := 4) h (by omega) (by omega))).trans ?_
  refine (if_neg (ne_n (j := 5) h (by omega) (by omega))).trans ?_
  refine (if_neg (ne_n (j := 6) h (by omega) (by omega))).trans ?_
  refine (if_neg (ne_n (j := 7) h (by omega) (by omega))).trans ?_
  refine (if_neg (ne_n (j := 8) h (by omega) (by omega))).trans ?_
  refine (if_neg (ne_n (j := 9) h (by omega) (by omega))).trans ?_
  refine (if_neg (ne_n (j := 10) h (by omega) (by omega))).trans ?_
  refine (if_neg (ne_n (j := 11) h (by omega) (by omega))).trans ?_
  refine (if_neg (ne_n (j := 12) h (by omega) (by omega))).trans ?_
  refine (if_neg (ne_n (j := 13) h (by omega) (by omega))).trans ?_
  refine (if_neg (ne_n (j := 14) h (by omega) (by omega))).trans ?_
  refine (if_neg (ne_n (j := 15) h (by omega) (by omega))).trans ?_
  refine (if_neg (ne_n (j := 16) h (by omega) (by omega))).trans ?_
  refine (if_neg (ne_n (j := 17) h (by omega) (by omega))).trans ?_
  refine (if_neg (ne_n (j := 18) h (by omega) (by omega))).trans ?_
  refine (if_neg (ne_n (j := 19) h (by omega) (by omega))).trans ?_
  refine (if_neg (ne_n (j := 20) h (by omega) (by omega))).trans ?_
  refine (if_pos h).trans ?_
  rw [XE1 hk hL, XE2 hk hL, O0b, zc e1, XE1 hk hL, XE2 hk hL, O126b, zc e2, if_pos rfl, show nI k + (6 : Int32) = nI (k + 6) from x_add k 6]
theorem lc_22 (hN : 300 ≤ N) (hI : IV M R T hc) (hL : L ≤ 3072) (hk : k + 6 ≤ L) (h : xs k &&& (63 : Int32) = nI 22) : SL z N L xs k M := by
  intro r18
  obtain ⟨r, M1, M2, e1, e2, hI2⟩ := s_ends (z := z) N hN hI (xs (k + 1))
  have e1 : fX11_ends N (enc z M) z (xs (k + 1)) = some (r, enc z M1) := e1
  have e2 : fX12_ends N (enc z M1) (z + 126) (xs (k + 1)) = some (r, enc z M2) := e2
  refine ⟨M2, hI2, ?_⟩
  rw [bL_law_18]
  refine (if_neg (nlast hk hL)).trans ?_
  rw [XE0 hk hL, znm_]
  refine (if_neg (ne_n (j := 0) h (by omega) (by omega))).trans ?_
  refine (if_neg (ne_n (j := 1) h (by omega) (by omega))).trans ?_
  refine (if_neg (ne_n (j := 2) h (by omega) (by omega))).trans ?_
  refine (if_neg (ne_n (j := 3) h (by omega) (by omega))).trans ?_
  refine (if_neg (ne_n (j := 4) h (by omega) (by omega))).trans ?_
  refine (if_neg (ne_n (j := 5) h (by omega) (by omega))).trans ?_
  refine (if_neg (ne_n (j := 6) h (by omega) (by omega))).trans ?_
  refine (if_neg (ne_n (j := 7) h (by omega) (by omega))).trans ?_
  refine (if_neg (ne_n (j := 8) h (by omega) (by omega))).trans ?_
  refine (if_neg (ne_n (j := 9) h (by omega) (by omega))).trans ?_
  refine (if_neg (ne_n (j := 10) h (by omega) (by omega))).trans ?_
  refine (if_neg (ne_n (j := 11) h (by omega) (by omega))).trans ?_
  refine (if_neg (ne_n (j := 12) h (by omega) (by omega))).trans ?_
  refine (if_neg (ne_n (j := 13) h (by omega) (by omega))).trans ?_
  refine (if_neg (ne_n (j := 14) h (by omega) (by omega))).trans ?_
  refine (if_neg (ne_n (j := 15) h (by omega) (by omega))).trans ?_
  refine (if_neg (ne_n (j := 16) h (by omega) (by omega))).trans ?_
  refine (if_neg (ne_n (j := 17) h (by omega) (by omega))).trans ?_
  refine (if_neg (ne_n (j := 18) h (by omega) (by omega))).trans ?_
  refine (if_neg (ne_n (j := 19) h (by omega) (by omega))).trans ?_
  refine (if_neg (ne_n (j := 20) h (by omega) (by omega))).trans ?_
  refine (if_neg (ne_n (j := 21) h (by omega) (by omega))).trans ?_
  refine (if_pos h).trans ?_
  rw [XE1 hk hL, O0b, zc e1, XE1 hk hL, O126b, zc e2, if_pos rfl, show nI k + (6 : Int32) = nI (k + 6) from x_add k 6]
theorem lc_23 (hN : 300 ≤ N) (hI : IV M R T hc) (hL : L ≤ 3072) (hk : k + 6 ≤ L) (h : xs k &&& (63 : Int32) = nI 23) : SL z N L xs k M := by
  intro r18
  obtain ⟨r, M1, M2, e1, e2, hI2⟩ := s_book (z := z) N hI (xs (k + 1)) (xs (k + 2))
  have e1 : fX11_book N (enc z M) z (xs (k + 1)) (xs (k + 2)) = some (r, enc z M1) := e1
  have e2 : fX12_book N (enc z M1) (z + 126) (xs (k + 1)) (xs (k + 2)) = some (r, enc z M2) := e2
  refine ⟨M2, hI2, ?_⟩
  rw [bL_law_18]
  refine (if_neg (nlast hk hL)).trans ?_
  rw [XE0 hk hL, znm_]
  refine (if_neg (ne_n (j := 0) h (by omega) (by omega))).trans ?_
  refine (if_neg (ne_n (j := 1) h (by omega) (by omega))).trans ?_
  refine (if_neg (ne_n (j := 2) h (by omega) (by omega))).trans ?_
  refine (if_neg (ne_n (j := 3) h (by omega) (by omega))).trans ?_
  refine (if_neg (ne_n (j := 4) h (by omega) (by omega))).trans ?_
  refine (if_neg (ne_n (j := 5) h (by omega) (by omega))).trans ?_
  refine (if_neg (ne_n (j := 6) h (by omega) (by omega))).trans ?_
  refine (if_neg (ne_n (j := 7) h (by omega) (by omega))).trans ?_
  refine (if_neg (ne_n (j := 8) h (by omega) (by omega))).trans ?_
  refine (if_neg (ne_n (j := 9) h (by omega) (by omega))).trans ?_
  refine (if_neg (ne_n (j := 10) h (by omega) (by omega))).trans ?_
  refine (if_neg (ne_n (j := 11) h (by omega) (by omega))).trans ?_
  refine (if_neg (ne_n (j := 12) h (by omega) (by omega))).trans ?_
  refine (if_neg (ne_n (j := 13) h (by omega) (by omega))).trans ?_
  refine (if_neg (ne_n (j := 14) h (by omega) (by omega))).trans ?_
  refine (if_neg (ne_n (j := 15) h (by omega) (by omega))).trans ?_
  refine (if_neg (ne_n (j := 16) h (by omega) (by omega))).trans ?_
  refine (if_neg (ne_n (j := 17) h (by omega) (by omega))).trans ?_
  refine (if_neg (ne_n (j := 18) h (by omega) (by omega))).trans ?_
  refine (if_neg (ne_n (j := 19) h (by omega) (by omega))).trans ?_
  refine (if_neg (ne_n (j := 20) h (by omega) (by omega))).trans ?_
  refine (if_neg (ne_n (j := 21) h (by omega) (by omega))).trans ?_
  refine (if_neg (ne_n (j := 22) h (by omega) (by omega))).trans ?_
  refine (if_pos h).trans ?_
  rw [XE1 hk hL, XE2 hk hL, O0b, zc e1, XE1 hk hL, XE2 hk hL, O126b, zc e2, if_pos rfl, show nI k + (6 : Int32) = nI (k + 6) from x_add k 6]
theorem lc_24 (hN : 300 ≤ N) (hI : IV M R T hc) (hL : L ≤ 3072) (hk : k + 6 ≤ L) (h : xs k &&& (63 : Int32) = nI 24) : SL z N L xs k M := by
  intro r18
  obtain ⟨r, M1, M2, e1, e2, hI2⟩ := s_looked (z := z) N hN hI
  have e1 : fX11_looked N (enc z M) z = some (r, enc z M1) := e1
  have e2 : fX12_looked N (enc z M1) (z + 126) = some (r, enc z M2) := e2
  refine ⟨M2, hI2, ?_⟩
  rw [bL_law_18]
  refine (if_neg (nlast hk hL)).trans ?_
  rw [XE0 hk hL, znm_]
  refine (if_neg (ne_n (j := 0) h (by omega) (by omega))).trans ?_
  refine (if_neg (ne_n (j := 1) h (by omega) (by omega))).trans ?_
  refine (if_neg (ne_n (j := 2) h (by omega) (by omega))).trans ?_
  refine (if_neg (ne_n (j := 3) h (by omega) (by omega))).trans ?_
  refine (if_neg (ne_n (j := 4) h (by omega) (by omega))).trans ?_
  refine (if_neg (ne_n (j := 5) h (by omega) (by omega))).trans ?_
  refine (if_neg (ne_n (j := 6) h (by omega) (by omega))).trans ?_
  refine (if_neg (ne_n (j := 7) h (by omega) (by omega))).trans ?_
  refine (if_neg (ne_n (j := 8) h (by omega) (by omega))).trans ?_
  refine (if_neg (ne_n (j := 9) h (by omega) (by omega))).trans ?_
  refine (if_neg (ne_n (j := 10) h (by omega) (by omega))).trans ?_
  refine (if_neg (ne_n (j := 11) h (by omega) (by omega))).trans ?_
  refine (if_neg (ne_n (j := 12) h (by omega) (by omega))).trans ?_
  refine (if_neg (ne_n (j := 13) h (by omega) (by omega))).trans ?_
  refine (if_neg (ne_n (j := 14) h (by omega) (by omega))).trans ?_
  refine (if_neg (ne_n (j := 15) h (by omega) (by omega))).trans ?_
  refine (if_neg (ne_n (j := 16) h (by omega) (by omega))).trans ?_
  refine (if_neg (ne_n (j := 17) h (by omega) (by omega))).trans ?_
  refine (if_neg (ne_n (j := 18) h (by omega) (by omega))).trans ?_
  refine (if_neg (ne_n (j := 19) h (by omega) (by omega))).trans ?_
  refine (if_neg (ne_n (j := 20) h (by omega) (by omega))).trans ?_
  refine (if_neg (ne_n (j := 21) h (by omega) (by omega))).trans ?_
  refine (if_neg (ne_n (j := 22) h (by omega) (by omega))).trans ?_
  refine (if_neg (ne_n (j := 23) h (by omega) (by omega))).trans ?_
  refine (if_pos h).trans ?_
  rw [O0b, zc e1, O126b, zc e2, if_pos rfl, show nI k + (6 : Int32) = nI (k + 6) from x_add k 6]
theorem lc_25 (hN : 300 ≤ N) (hI : IV M R T hc) (hL : L ≤ 3072) (hk : k + 6 ≤ L) (h : xs k &&& (63 : Int32) = nI 25) : SL z N L xs k M := by
  intro r18
  obtain ⟨r, M1, M2, e1, e2, hI2⟩ := s_judge (z := z) N hN hI (xs (k + 1)) (xs (k + 2))
  have e1 : fX11_judge N (enc z M) z (xs (k + 1)) (xs (k + 2)) = some (r, enc z M1) := e1
  have e2 : fX12_judge N (enc z M1) (z + 126) (xs (k + 1)) (xs (k + 2)) = some (r, enc z M2) := e2
  refine ⟨M2, hI2, ?_⟩
  rw [bL_law_18]
  refine (if_neg (nlast hk hL)).trans ?_
  rw [XE0 hk hL, znm_]
  refine (if_neg (ne_n (j := 0) h (by omega) (by omega))).trans ?_
  refine (if_neg (ne_n (j := 1) h (by omega) (by omega))).trans ?_
  refine (if_neg (ne_n (j := 2) h (by omega) (by omega))).trans ?_
  refine (if_neg (ne_n (j := 3) h (by omega) (by omega))).trans ?_
  refine (if_neg (ne_n (j := 4) h (by omega) (by omega))).trans ?_
  refine (if_neg (ne_n (j := 5) h (by omega) (by omega))).trans ?_
  refine (if_neg (ne_n (j := 6) h (by omega) (by omega))).trans ?_
  refine (if_neg (ne_n (j := 7) h (by omega) (by omega))).trans ?_
  refine (if_neg (ne_n (j := 8) h (by omega) (by omega))).trans ?_
  refine (if_neg (ne_n (j := 9) h (by omega) (by omega))).trans ?_
  refine (if_neg (ne_n (j := 10) h (by omega) (by omega))).trans ?_
  refine (if_neg (ne_n (j := 11) h (by omega) (by omega))).trans ?_
  refine (if_neg (ne_n (j := 12) h (by omega) (by omega))).trans ?_
  refine (if_neg (ne_n (j := 13) h (by omega) (by omega))).trans ?_
  refine (if_neg (ne_n (j := 14) h (by omega) (by omega))).trans ?_
  refine (if_neg (ne_n (j := 15) h (by omega) (by omega))).trans ?_
  refine (if_neg (ne_n (j := 16) h (by omega) (by omega))).trans ?_
  refine (if_neg (ne_n (j := 17) h (by omega) (by omega))).trans ?_
  refine (if_neg (ne_n (j := 18) h (by omega) (by omega))).trans ?_
  refine (if_neg (ne_n (j := 19) h (by omega) (by omega))).trans ?_
  refine (if_neg (ne_n (j := 20) h (by omega) (by omega))).trans ?_
  refine (if_neg (ne_n (j := 21) h (by omega) (by omega))).trans ?_
  refine (if_neg (ne_n (j := 22) h (by omega) (by omega))).trans ?_
  refine (if_neg (ne_n (j := 23) h (by omega) (by omega))).trans ?_
  refine (if_neg (ne_n (j := 24) h (by omega) (by omega))).trans ?_
  refine (if_pos h).trans ?_
  rw [XE1 hk hL, XE2 hk hL, O0b, zc e1, XE1 hk hL, XE2 hk hL, O126b, zc e2, if_pos rfl, show nI k + (6 : Int32) = nI (k + 6) from x_add k 6]
theorem lc_26 (hN : 300 ≤ N) (hI : IV M R T hc) (hL : L ≤ 3072) (hk : k + 6 ≤ L) (h : xs k &&& (63 : Int32) = nI 26) : SL z N L xs k M := by
  intro r18
  obtain ⟨r, M1, M2, e1, e2, hI2⟩ := s_image (z := z) N hN hI
  have e1 : fX11_image N (enc z M) z = some (r, enc z M1) := e1
  have e2 : fX12_image N (enc z M1) (z + 126) = some (r, enc z M2) := e2
  refine ⟨M2, hI2, ?_⟩
  rw [bL_law_18]
  refine (if_neg (nlast hk hL)).trans ?_
  rw [XE0 hk hL, znm_]
  refine (if_neg (ne_n (j := 0) h (by omega) (by omega))).trans ?_
  refine (if_neg (ne_n (j := 1) h (by omega) (by omega))).trans ?_
  refine (if_neg (ne_n (j := 2) h (by omega) (by omega))).trans ?_
  refine (if_neg (ne_n (j := 3) h (by omega) (by omega))).trans ?_
  refine (if_neg (ne_n (j := 4) h (by omega) (by omega))).trans ?_
  refine (if_neg (ne_n (j := 5) h (by omega) (by omega))).trans ?_
  refine (if_neg (ne_n (j := 6) h (by omega) (by omega))).trans ?_
  refine (if_neg (ne_n (j := 7) h (by omega) (by omega))).trans ?_
  refine (if_neg (ne_n (j := 8) h (by omega) (by omega))).trans ?_
  refine (if_neg (ne_n (j := 9) h (by omega) (by omega))).trans ?_
  refine (if_neg (ne_n (j := 10) h (by omega) (by omega))).trans ?_
  refine (if_neg (ne_n (j := 11) h (by omega) (by omega))).trans ?_
  refine (if_neg (ne_n (j := 12) h (by omega) (by omega))).trans ?_
  refine (if_neg (ne_n (j := 13) h (by omega) (by omega))).trans ?_
  refine (if_neg (ne_n (j := 14) h (by omega) (by omega))).trans ?_
  refine (if_neg (ne_n (j := 15) h (by omega) (by omega))).trans ?_
  refine (if_neg (ne_n (j := 16) h (by omega) (by omega))).trans ?_
  refine (if_neg (ne_n (j := 17) h (by omega) (by omega))).trans ?_
  refine (if_neg (ne_n (j := 18) h (by omega) (by omega))).trans ?_
  refine (if_neg (ne_n (j := 19) h (by omega) (by omega))).trans ?_
  refine (if_neg (ne_n (j := 20) h (by omega) (by omega))).trans ?_
  refine (if_neg (ne_n (j := 21) h (by omega) (by omega))).trans ?_
  refine (if_neg (ne_n (j := 22) h (by omega) (by omega))).trans ?_
  refine (if_neg (ne_n (j := 23) h (by omega) (by omega))).trans ?_
  refine (if_neg (ne_n (j := 24) h (by omega) (by omega))).trans ?_
  refine (if_neg (ne_n (j := 25) h (by omega) (by omega))).trans ?_
  refine (if_pos h).trans ?_
  rw [O0b, zc e1, O126b, zc e2, if_pos rfl, show nI k + (6 : Int32) = nI (k + 6) from x_add k 6]
theorem lc_27 (hN : 300 ≤ N) (hI : IV M R T hc) (hL : L ≤ 3072) (hk : k + 6 ≤ L) (h : xs k &&& (63 : Int32) = nI 27) : SL z N L xs k M := by
  intro r18
  obtain ⟨r, M1, M2, e1, e2, hI2⟩ := s_undo (z := z) N hN hI
  have e1 : fX11_undo N (enc z M) z = some (r, enc z M1) := e1
  have e2 : fX12_undo N (enc z M1) (z + 126) = some (r, enc z M2) := e2
  refine ⟨M2, hI2, ?_⟩
  rw [bL_law_18]
  refine (if_neg (nlast hk hL)).trans ?_
  rw [XE0 hk hL, znm_]
  refine (if_neg (ne_n (j := 0) h (by omega) (by omega))).trans ?_
  refine (if_neg (ne_n (j := 1) h (by omega) (by omega))).trans ?_
  refine (if_neg (ne_n (j := 2) h (by omega) (by omega))).trans ?_
  refine (if_neg (ne_n (j := 3) h (by omega) (by omega))).trans ?_
  refine (if_neg (ne_n (j := 4) h (by omega) (by omega))).trans ?_
  refine (if_neg (ne_n (j := 5) h (by omega) (by omega))).trans ?_
  refine (if_neg (ne_n (j := 6) h (by omega) (by omega))).trans ?_
  refine (if_neg (ne_n (j := 7) h (by omega) (by omega))).trans ?_
  refine (if_neg (ne_n (j := 8) h (by omega) (by omega))).trans ?_
  refine (if_neg (ne_n (j := 9) h (by omega) (by omega))).trans ?_
  refine (if_neg (ne_n (j := 10) h (by omega) (by omega))).trans ?_
  refine (if_neg (ne_n (j := 11) h (by omega) (by omega))).trans ?_
  refine (if_neg (ne_n (j := 12) h (by omega) (by omega))).trans ?_
  refine (if_neg (ne_n (j := 13) h (by omega) (by omega))).trans ?_
  refine (if_neg (ne_n (j := 14) h (by omega) (by omega))).trans ?_
  refine (if_neg (ne_n (j := 15) h (by omega) (by omega))).trans ?_
  refine (if_neg (ne_n (j := 16) h (by omega) (by omega))).trans ?_
  refine (if_neg (ne_n (j := 17) h (by omega) (by omega))).trans ?_
  refine (if_neg (ne_n (j := 18) h (by omega) (by omega))).trans ?_
  refine (if_neg (ne_n (j := 19) h (by omega) (by omega))).trans ?_
  refine (if_neg (ne_n (j := 20) h (by omega) (by omega))).trans ?_
  refine (if_neg (ne_n (j := 21) h (by omega) (by omega))).trans ?_
  refine (if_neg (ne_n (j := 22) h (by omega) (by omega))).trans ?_
  refine (if_neg (ne_n (j := 23) h (by omega) (by omega))).trans ?_
  refine (if_neg (ne_n (j := 24) h (by omega) (by omega))).trans ?_
  refine (if_neg (ne_n (j := 25) h (by omega) (by omega))).trans ?_
  refine (if_neg (ne_n (j := 26) h (by omega) (by omega))).trans ?_
  refine (if_pos h).trans ?_
  rw [O0b, zc e1, O126b, zc e2, if_pos rfl, show nI k + (6 : Int32) = nI (k + 6) from x_add k 6]
theorem lc_28 (hN : 300 ≤ N) (hI : IV M R T hc) (hL : L ≤ 3072) (hk : k + 6 ≤ L) (h : xs k &&& (63 : Int32) = nI 28) : SL z N L xs k M := by
  intro r18
  obtain ⟨r, M1, M2, e1, e2, hI2⟩ := s_act (z := z) N hN hI (xs (k + 1)) (xs (k + 2)) (xs (k + 3))
  have e1 : fX11_act N (enc z M) z (xs (k + 1)) (xs (k + 2)) (xs (k + 3)) = some (r, enc z M1) := e1
  have e2 : fX12_act N (enc z M1) (z + 126) (xs (k + 1)) (xs (k + 2)) (xs (k + 3)) = some (r, enc z M2) := e2
  refine ⟨M2, hI2, ?_⟩
  rw [bL_law_18]
  refine (if_neg (nlast hk hL)).trans ?_
  rw [XE0 hk hL, znm_]
  refine (if_neg (ne_n (j := 0) h (by omega) (by omega))).trans ?_
  refine (if_neg (ne_n (j := 1) h (by omega) (by omega))).trans ?_
  refine (if_neg (ne_n (j := 2) h (by omega) (by omega))).trans ?_
  refine (if_neg (ne_n (j := 3) h (by omega) (by omega))).trans ?_
  refine (if_neg (ne_n (j := 4) h (by omega) (by omega))).trans ?_
  refine (if_neg (ne_n (j := 5) h (by omega) (by omega))).trans ?_
  refine (if_neg (ne_n (j := 6) h (by omega) (by omega))).trans ?_
  refine (if_neg (ne_n (j := 7) h (by omega) (by omega))).trans ?_
  refine (if_neg (ne_n (j := 8) h (by omega) (by omega))).trans ?_
  refine (if_neg (ne_n (j := 9) h (by omega) (by omega))).trans ?_
  refine (if_neg (ne_n (j := 10) h (by omega) (by omega))).trans ?_
  refine (if_neg (ne_n (j := 11) h (by omega) (by omega))).trans ?_
  refine (if_neg (ne_n (j := 12) h (by omega) (by omega))).trans ?_
  refine (if_neg (ne_n (j := 13) h (by omega) (by omega))).trans ?_
  refine (if_neg (ne_n (j := 14) h (by omega) (by omega))).trans ?_
  refine (if_neg (ne_n (j := 15) h (by omega) (by omega))).trans ?_
  refine (if_neg (ne_n (j := 16) h (by omega) (by omega))).trans ?_
  refine (if_neg (ne_n (j := 17) h (by omega) (by omega))).trans ?_
  refine (if_neg (ne_n (j := 18) h (by omega) (by omega))).trans ?_
  refine (if_neg (ne_n (j := 19) h (by omega) (by omega))).trans ?_
  refine (if_neg (ne_n (j := 20) h (by omega) (by omega))).trans ?_
  refine (if_neg (ne_n (j := 21) h (by omega) (by omega))).trans ?_
  refine (if_neg (ne_n (j := 22) h (by omega) (by omega))).trans ?_
  refine (if_neg (ne_n (j := 23) h (by omega) (by omega))).trans ?_
  refine (if_neg (ne_n (j := 24) h (by omega) (by omega))).trans ?_
  refine (if_neg (ne_n (j := 25) h (by omega) (by omega))).trans ?_
  refine (if_neg (ne_n (j := 26) h (by omega) (by omega))).trans ?_
  refine (if_neg (ne_n (j := 27) h (by omega) (by omega))).trans ?_
  refine (if_pos h).trans ?_
  rw [XE1 hk hL, XE2 hk hL, XE3 hk hL, O0b, zc e1, XE1 hk hL, XE2 hk hL, XE3 hk hL, O126b, zc e2, if_pos rfl, show nI k + (6 : Int32) = nI (k + 6) from x_add k 6]
theorem lc_29 (hN : 300 ≤ N) (hI : IV M R T hc) (hL : L ≤ 3072) (hk : k + 6 ≤ L) (h : xs k &&& (63 : Int32) = nI 29) : SL z N L xs k M := by
  intro r18
  obtain ⟨r, M1, M2, e1, e2, hI2⟩ := s_trace (z := z) N hI (xs (k + 1))
  have e1 : fX11_trace N (enc z M) z (xs (k + 1)) = some (r, enc z M1) := e1
  have e2 : fX12_trace N (enc z M1) (z + 126) (xs (k + 1)) = some (r, enc z M2) := e2
  refine ⟨M2, hI2, ?_⟩
  rw [bL_law_18]
  refine (if_neg (nlast hk hL)).trans ?_
  rw [XE0 hk hL, znm_]
  refine (if_neg (ne_n (j := 0) h (by omega) (by omega))).trans ?_
  refine (if_neg (ne_n (j := 1) h (by omega) (by omega))).trans ?_
  refine (if_neg (ne_n (j := 2) h (by omega) (by omega))).trans ?_
  refine (if_neg (ne_n (j := 3) h (by omega) (by omega))).trans ?_
  refine (if_neg (ne_n (j := 4) h (by omega) (by omega))).trans ?_
  refine (if_neg (ne_n (j := 5) h (by omega) (by omega))).trans ?_
  refine (if_neg (ne_n (j := 6) h (by omega) (by omega))).trans ?_
  refine (if_neg (ne_n (j := 7) h (by omega) (by omega))).trans ?_
  refine (if_neg (ne_n (j := 8) h (by omega) (by omega))).trans ?_
  refine (if_neg (ne_n (j := 9) h (by omega) (by omega))).trans ?_
  refine (if_neg (ne_n (j := 10) h (by omega) (by omega))).trans ?_
  refine (if_neg (ne_n (j := 11) h (by omega) (by omega))).trans ?_
  refine (if_neg (ne_n (j := 12) h (by omega) (by omega))).trans ?_
  refine (if_neg (ne_n (j := 13) h (by omega) (by omega))).trans ?_
  refine (if_neg (ne_n (j := 14) h (by omega) (by omega))).trans ?_
  refine (if_neg (ne_n (j := 15) h (by omega) (by omega))).trans ?_
  refine (if_neg (ne_n (j := 16) h (by omega) (by omega))).trans ?_
  refine (if_neg (ne_n (j := 17) h (by omega) (by omega))).trans ?_
  refine (if_neg (ne_n (j := 18) h (by omega) (by omega))).trans ?_
  refine (if_neg (ne_n (j := 19) h (by omega) (by omega))).trans ?_
  refine (if_neg (ne_n (j := 20) h (by omega) (by omega))).trans ?_
  refine (if_neg (ne_n (j := 21) h (by omega) (by omega))).trans ?_
  refine (if_neg (ne_n (j := 22) h (by omega) (by omega))).trans ?_
  refine (if_neg (ne_n (j := 23) h (by omega) (by omega))).trans ?_
  refine (if_neg (ne_n (j := 24) h (by omega) (by omega))).trans ?_
  refine (if_neg (ne_n (j := 25) h (by omega) (by omega))).trans ?_
  refine (if_neg (ne_n (j := 26) h (by omega) (by omega))).trans ?_
  refine (if_neg (ne_n (j := 27) h (by omega) (by omega))).trans ?_
  refine (if_neg (ne_n (j := 28) h (by omega) (by omega))).trans ?_
  refine (if_pos h).trans ?_
  rw [XE1 hk hL, O0b, zc e1, XE1 hk hL, O126b, zc e2, if_pos rfl, show nI k + (6 : Int32) = nI (k + 6) from x_add k 6]
theorem lc_30 (hN : 300 ≤ N) (hI : IV M R T hc) (hL : L ≤ 3072) (hk : k + 6 ≤ L) (h : xs k &&& (63 : Int32) = nI 30) : SL z N L xs k M := by
  intro r18
  obtain ⟨r, M1, M2, e1, e2, hI2⟩ := s_taken (z := z) N hN hI (xs (k + 1)) (xs (k + 2))
  have e1 : fX11_taken N (enc z M) z (xs (k + 1)) (xs (k + 2)) = some (r, enc z M1) := e1
  have e2 : fX12_taken N (enc z M1) (z + 126) (xs (k + 1)) (xs (k + 2)) = some (r, enc z M2) := e2
  refine ⟨M2, hI2, ?_⟩
  rw [bL_law_18]
  refine (if_neg (nlast hk hL)).trans ?_
  rw [XE0 hk hL, znm_]
  refine (if_neg (ne_n (j := 0) h (by omega) (by omega))).trans ?_
  refine (if_neg (ne_n (j := 1) h (by omega) (by omega))).trans ?_
  refine (if_neg (ne_n (j := 2) h (by omega) (by omega))).trans ?_
  refine (if_neg (ne_n (j := 3) h (by omega) (by omega))).trans ?_
  refine (if_neg (ne_n (j := 4) h (by omega) (by omega))).trans ?_
  refine (if_neg (ne_n (j := 5) h (by omega) (by omega))).trans ?_
  refine (if_neg (ne_n (j := 6) h (by omega) (by omega))).trans ?_
  refine (if_neg (ne_n (j := 7) h (by omega) (by omega))).trans ?_
  refine (if_neg (ne_n (j := 8) h (by omega) (by omega))).trans ?_
  refine (if_neg (ne_n (j := 9) h (by omega) (by omega))).trans ?_
  refine (if_neg (ne_n (j := 10) h (by omega) (by omega))).trans ?_
  refine (if_neg (ne_n (j := 11) h (by omega) (by omega))).trans ?_
  refine (if_neg (ne_n (j := 12) h (by omega) (by omega))).trans ?_
  refine (if_neg (ne_n (j := 13) h (by omega) (by omega))).trans ?_
  refine (if_neg (ne_n (j := 14) h (by omega) (by omega))).trans ?_
  refine (if_neg (ne_n (j := 15) h (by omega) (by omega))).trans ?_
  refine (if_neg (ne_n (j := 16) h (by omega) (by omega))).trans ?_
  refine (if_neg (ne_n (j := 17) h (by omega) (by omega))).trans ?_
  refine (if_neg (ne_n (j := 18) h (by omega) (by omega))).trans ?_
  refine (if_neg (ne_n (j := 19) h (by omega) (by omega))).trans ?_
  refine (if_neg (ne_n (j := 20) h (by omega) (by omega))).trans ?_
  refine (if_neg (ne_n (j := 21) h (by omega) (by omega))).trans ?_
  refine (if_neg (ne_n (j := 22) h (by omega) (by omega))).trans ?_
  refine (if_neg (ne_n (j := 23) h (by omega) (by omega))).trans ?_
  refine (if_neg (ne_n (j := 24) h (by omega) (by omega))).trans ?_
  refine (if_neg (ne_n (j := 25) h (by omega) (by omega))).trans ?_
  refine (if_neg (ne_n (j := 26) h (by omega) (by omega))).trans ?_
  refine (if_neg (ne_n (j := 27) h (by omega) (by omega))).trans ?_
  refine (if_neg (ne_n (j := 28) h (by omega) (by omega))).trans ?_
  refine (if_neg (ne_n (j := 29) h (by omega) (by omega))).trans ?_
  refine (if_pos h).trans ?_
  rw [XE1 hk hL, XE2 hk hL, O0b, zc e1, XE1 hk hL, XE2 hk hL, O126b, zc e2, if_pos rfl, show nI k + (6 : Int32) = nI (k + 6) from x_add k 6]
theorem lc_31 (hN : 300 ≤ N) (hI : IV M R T hc) (hL : L ≤ 3072) (hk : k + 6 ≤ L) (h : xs k &&& (63 : Int32) = nI 31) : SL z N L xs k M := by
  intro r18
  obtain ⟨r, M1, M2, e1, e2, hI2⟩ := s_count (z := z) N hI (xs (k + 1))
  have e1 : fX11_count N (enc z M) z (xs (k + 1)) = some (r, enc z M1) := e1
  have e2 : fX12_count N (enc z M1) (z + 126) (xs (k + 1)) = some (r, enc z M2) := e2
  refine ⟨M2, hI2, ?_⟩
  rw [bL_law_18]
  refine (if_neg (nlast hk hL)).trans ?_
  rw [XE0 hk hL, znm_]
  refine (if_neg (ne_n (j := 0) h (by omega) (by omega))).trans ?_
  refine (if_neg (ne_n (j := 1) h (by omega) (by omega))).trans ?_
  refine (if_neg (ne_n (j := 2) h (by omega) (by omega))).trans ?_
  refine (if_neg (ne_n (j := 3) h (by omega) (by omega))).trans ?_
  refine (if_neg (ne_n (j := 4) h (by omega) (by omega))).trans ?_
  refine (if_neg (ne_n (j := 5) h (by omega) (by omega))).trans ?_
  refine (if_neg (ne_n (j := 6) h (by omega) (by omega))).trans ?_
  refine (if_neg (ne_n (j := 7) h (by omega) (by omega))).trans ?_
  refine (if_neg (ne_n (j := 8) h (by omega) (by omega))).trans ?_
  refine (if_neg (ne_n (j := 9) h (by omega) (by omega))).trans ?_
  refine (if_neg (ne_n (j := 10) h (by omega) (by omega))).trans ?_
  refine (if_neg (ne_n (j := 11) h (by omega) (by omega))).trans ?_
  refine (if_neg (ne_n (j := 12) h (by omega) (by omega))).trans ?_
  refine (if_neg (ne_n (j := 13) h (by omega) (by omega))).trans ?_
  refine (if_neg (ne_n (j := 14) h (by omega) (by omega))).trans ?_
  refine (if_neg (ne_n (j := 15) h (by omega) (by omega))).trans ?_
  refine (if_neg (ne_n (j := 16) h (by omega) (by omega))).trans ?_
  refine (if_neg (ne_n (j := 17) h (by omega) (by omega))).trans ?_
  refine (if_neg (ne_n (j := 18) h (by omega) (by omega))).trans ?_
  refine (if_neg (ne_n (j := 19) h (by omega) (by omega))).trans ?_
  refine (if_neg (ne_n (j := 20) h (by omega) (by omega))).trans ?_
  refine (if_neg (ne_n (j := 21) h (by omega) (by omega))).trans ?_
  refine (if_neg (ne_n (j := 22) h (by omega) (by omega))).trans ?_
  refine (if_neg (ne_n (j := 23) h (by omega) (by omega))).trans ?_
  refine (if_neg (ne_n (j := 24) h (by omega) (by omega))).trans ?_
  refine (if_neg (ne_n (j := 25) h (by omega) (by omega))).trans ?_
  refine (if_neg (ne_n (j := 26) h (by omega) (by omega))).trans ?_
  refine (if_neg (ne_n (j := 27) h (by omega) (by omega))).trans ?_
  refine (if_neg (ne_n (j := 28) h (by omega) (by omega))).trans ?_
  refine (if_neg (ne_n (j := 29) h (by omega) (by omega))).trans ?_
  refine (if_neg (ne_n (j := 30) h (by omega) (by omega))).trans ?_
  refine (if_pos h).trans ?_
  rw [XE1 hk hL, O0b, zc e1, XE1 hk hL, O126b, zc e2, if_pos rfl, show nI k + (6 : Int32) = nI (k + 6) from x_add k 6]
theorem lc_32 (hN : 300 ≤ N) (hI : IV M R T hc) (hL : L ≤ 3072) (hk : k + 6 ≤ L) (h : xs k &&& (63 : Int32) = nI 32) : SL z N L xs k M := by
  intro r18
  obtain ⟨r, M1, M2, e1, e2, hI2⟩ := s_tape (z := z) N hN hI (xs (k + 1)) (xs (k + 2)) (xs (k + 3))
  have e1 : fX11_tape N (enc z M) z (xs (k + 1)) (xs (k + 2)) (xs (k + 3)) = some (r, enc z M1) := e1
  have e2 : fX12_tape N (enc z M1) (z + 126) (xs (k + 1)) (xs (k + 2)) (xs (k + 3)) = some (r, enc z M2) := e2
  refine ⟨M2, hI2, ?_⟩
  rw [bL_law_18]
  refine (if_neg (nlast hk hL)).trans ?_
  rw [XE0 hk hL, znm_]
  refine (if_neg (ne_n (j := 0) h (by omega) (by omega))).trans ?_
  refine (if_neg (ne_n (j := 1) h (by omega) (by omega))).trans ?_
  refine (if_neg (ne_n (j := 2) h (by omega) (by omega))).trans ?_
  refine (if_neg (ne_n (j := 3) h (by omega) (by omega))).trans ?_
  refine (if_neg (ne_n (j := 4) h (by omega) (by omega))).trans ?_
  refine (if_neg (ne_n (j := 5) h (by omega) (by omega))).trans ?_
  refine (if_neg (ne_n (j := 6) h (by omega) (by omega))).trans ?_
  refine (if_neg (ne_n (j := 7) h (by omega) (by omega))).trans ?_
  refine (if_neg (ne_n (j := 8) h (by omega) (by omega))).trans ?_
  refine (if_neg (ne_n (j := 9) h (by omega) (by omega))).trans ?_
  refine (if_neg (ne_n (j := 10) h (by omega) (by omega))).trans ?_
  refine (if_neg (ne_n (j := 11) h (by omega) (by omega))).trans ?_
  refine (if_neg (ne_n (j := 12) h (by omega) (by omega))).trans ?_
  refine (if_neg (ne_n (j := 13) h (by omega) (by omega))).trans ?_
  refine (if_neg (ne_n (j := 14) h (by omega) (by omega))).trans ?_
  refine (if_neg (ne_n (j := 15) h (by omega) (by omega))).trans ?_
  refine (if_neg (ne_n (j := 16) h (by omega) (by omega))).trans ?_
  refine (if_neg (ne_n (j := 17) h (by omega) (by omega))).trans ?_
  refine (if_neg (ne_n (j := 18) h (by omega) (by omega))).trans ?_
  refine (if_neg (ne_n (j := 19) h (by omega) (by omega))).trans ?_
  refine (if_neg (ne_n (j := 20) h (by omega) (by omega))).trans ?_
  refine (if_neg (ne_n (j := 21) h (by omega) (by omega))).trans ?_
  refine (if_neg (ne_n (j := 22) h (by omega) (by omega))).trans ?_
  refine (if_neg (ne_n (j := 23) h (by omega) (by omega))).trans ?_
  refine (if_neg (ne_n (j := 24) h (by omega) (by omega))).trans ?_
  refine (if_neg (ne_n (j := 25) h (by omega) (by omega))).trans ?_
  refine (if_neg (ne_n (j := 26) h (by omega) (by omega))).trans ?_
  refine (if_neg (ne_n (j := 27) h (by omega) (by omega))).trans ?_
  refine (if_neg (ne_n (j := 28) h (by omega) (by omega))).trans ?_
  refine (if_neg (ne_n (j := 29) h (by omega) (by omega))).trans ?_
  refine (if_neg (ne_n (j := 30) h (by omega) (by omega))).trans ?_
  refine (if_neg (ne_n (j := 31) h (by omega) (by omega))).trans ?_
  refine (if_pos h).trans ?_
  rw [XE1 hk hL, XE2 hk hL, XE3 hk hL, O0b, zc e1, XE1 hk hL, XE2 hk hL, XE3 hk hL, O126b, zc e2, if_pos rfl, show nI k + (6 : Int32) = nI (k + 6) from x_add k 6]
theorem lc_33 (hN : 300 ≤ N) (hI : IV M R T hc) (hL : L ≤ 3072) (hk : k + 6 ≤ L) (h : xs k &&& (63 : Int32) = nI 33) : SL z N L xs k M := by
  intro r18
  obtain ⟨r, M1, M2, e1, e2, hI2⟩ := s_item (z := z) N hI (xs (k + 1)) (xs (k + 2)) ((((xs (k + 3)).toInt64) <<< ((32 : Int32).toInt64 &&& 63)) ||| (((xs (k + 4)).toInt64) &&& (4294967295 : Int64)))
  have e1 : fX11_item N (enc z M) z (xs (k + 1)) (xs (k + 2)) ((((xs (k + 3)).toInt64) <<< ((32 : Int32).toInt64 &&& 63)) ||| (((xs (k + 4)).toInt64) &&& (4294967295 : Int64))) = some (r, enc z M1) := e1
  have e2 : fX12_item N (enc z M1) (z + 126) (xs (k + 1)) (xs (k + 2)) ((((xs (k + 3)).toInt64) <<< ((32 : Int32).toInt64 &&& 63)) ||| (((xs (k + 4)).toInt64) &&& (4294967295 : Int64))) = some (r, enc z M2) := e2
  refine ⟨M2, hI2, ?_⟩
  rw [bL_law_18]
  refine (if_neg (nlast hk hL)).trans ?_
  rw [XE0 hk hL, znm_]
  refine (if_neg (ne_n (j := 0) h (by omega) (by omega))).trans ?_
  refine (if_neg (ne_n (j := 1) h (by omega) (by omega))).trans ?_
  refine (if_neg (ne_n (j := 2) h (by omega) (by omega))).trans ?_
  refine (if_neg (ne_n (j := 3) h (by omega) (by omega))).trans ?_
  refine (if_neg (ne_n (j := 4) h (by omega) (by omega))).trans ?_
  refine (if_neg (ne_n (j := 5) h (by omega) (by omega))).trans ?_
  refine (if_neg (ne_n (j := 6) h (by omega) (by omega))).trans ?_
  refine (if_neg (ne_n (j := 7) h (by omega) (by omega))).trans ?_
  refine (if_neg (ne_n (j := 8) h (by omega) (by omega))).trans ?_
  refine (if_neg (ne_n (j := 9) h (by omega) (by omega))).trans ?_
  refine (if_neg (ne_n (j := 10) h (by omega) (by omega))).trans ?_
  refine (if_neg (ne_n (j := 11) h (by omega) (by omega))).trans ?_
  refine (if_neg (ne_n (j := 12) h (by omega) (by omega))).trans ?_
  refine (if_neg (ne_n (j := 13) h (by omega) (by omega))).trans ?_
  refine (if_neg (ne_n (j := 14) h (by omega) (by omega))).trans ?_
  refine (if_neg (ne_n (j := 15) h (by omega) (by omega))).trans ?_
  refine (if_neg (ne_n (j := 16) h (by omega) (by omega))).trans ?_
  refine (if_neg (ne_n (j := 17) h (by omega) (by omega))).trans ?_
  refine (if_neg (ne_n (j := 18) h (by omega) (by omega))).trans ?_
  refine (if_neg (ne_n (j := 19) h (by omega) (by omega))).trans ?_
  refine (if_neg (ne_n (j := 20) h (by omega) (by omega))).trans ?_
  refine (if_neg (ne_n (j := 21) h (by omega) (by omega))).trans ?_
  refine (if_neg (ne_n (j := 22) h (by omega) (by omega))).trans ?_
  refine (if_neg (ne_n (j := 23) h (by omega) (by omega))).trans ?_
  refine (if_neg (ne_n (j := 24) h (by omega) (by omega))).trans ?_
  refine (if_neg (ne_n (j := 25) h (by omega) (by omega))).trans ?_
  refine (if_neg (ne_n (j := 26) h (by omega) (by omega))).trans ?_
  refine (if_neg (ne_n (j := 27) h (by omega) (by omega))).trans ?_
  refine (if_neg (ne_n (j := 28) h (by omega) (by omega))).trans ?_
  refine (if_neg (ne_n (j := 29) h (by omega) (by omega))).trans ?_
  refine (if_neg (ne_n (j := 30) h (by omega) (by omega))).trans ?_
  refine (if_neg (ne_n (j := 31) h (by omega) (by omega))).trans ?_
  refine (if_neg (ne_n (j := 32) h (by omega) (by omega))).trans ?_
  refine (if_pos h).trans ?_
  rw [XE1 hk hL, XE2 hk hL, XE3 hk hL, XE4 hk hL, O0b, zc e1, XE1 hk hL, XE2 hk hL, XE3 hk hL, XE4 hk hL, O126b, zc e2, if_pos rfl, show nI k + (6 : Int32) = nI (k + 6) from x_add k 6]
theorem lc_34 (hN : 300 ≤ N) (hI : IV M R T hc) (hL : L ≤ 3072) (hk : k + 6 ≤ L) (h : xs k &&& (63 : Int32) = nI 34) : SL z N L xs k M := by
  intro r18
  obtain ⟨r, M1, M2, e1, e2, hI2⟩ := s_read (z := z) N hI (xs (k + 1)) (xs (k + 2))
  have e1 : fX11_read N (enc z M) z (xs (k + 1)) (xs (k + 2)) = some (r, enc z M1) := e1
  have e2 : fX12_read N (enc z M1) (z + 126) (xs (k + 1)) (xs (k + 2)) = some (r, enc z M2) := e2
  refine ⟨M2, hI2, ?_⟩
  rw [bL_law_18]
  refine (if_neg (nlast hk hL)).trans ?_
  rw [XE0 hk hL, znm_]
  refine (if_neg (ne_n (j := 0) h (by omega) (by omega))).trans ?_
  refine (if_neg (ne_n (j := 1) h (by omega) (by omega))).trans ?_
  refine (if_neg (ne_n (j := 2) h (by omega) (by omega))).trans ?_
  refine (if_neg (ne_n (j := 3) h (by omega) (by omega))).trans ?_
  refine (if_neg (ne_n (j := 4) h (by omega) (by omega))).trans ?_
  refine (if_neg (ne_n (j := 5) h (by omega) (by omega))).trans ?_
  refine (if_neg (ne_n (j := 6) h (by omega) (by omega))).trans ?_
  refine (if_neg (ne_n (j := 7) h (by omega) (by omega))).trans ?_
  refine (if_neg (ne_n (j := 8) h (by omega) (by omega))).trans ?_
  refine (if_neg (ne_n (j := 9) h (by omega) (by omega))).trans ?_
  refine (if_neg (ne_n (j := 10) h (by omega) (by omega))).trans ?_
  refine (if_neg (ne_n (j := 11) h (by omega) (by omega))).trans ?_
  refine (if_neg (ne_n (j := 12) h (by omega) (by omega))).trans ?_
  refine (if_neg (ne_n (j := 13) h (by omega) (by omega))).trans ?_
  refine (if_neg (ne_n (j := 14) h (by omega) (by omega))).trans ?_
  refine (if_neg (ne_n (j := 15) h (by omega) (by omega))).trans ?_
  refine (if_neg (ne_n (j := 16) h (by omega) (by omega))).trans ?_
  refine (if_neg (ne_n (j := 17) h (by omega) (by omega))).trans ?_
  refine (if_neg (ne_n (j := 18) h (by omega) (by omega))).trans ?_
  refine (if_neg (ne_n (j := 19) h (by omega) (by omega))).trans ?_
  refine (if_neg (ne_n (j := 20) h (by omega) (by omega))).trans ?_
  refine (if_neg (ne_n (j := 21) h (by omega) (by omega))).trans ?_
  refine (if_neg (ne_n (j := 22) h (by omega) (by omega))).trans ?_
  refine (if_neg (ne_n (j := 23) h (by omega) (by omega))).trans ?_
  refine (if_neg (ne_n (j := 24) h (by omega) (by omega))).trans ?_
  refine (if_neg (ne_n (j := 25) h (by omega) (by omega))).trans ?_
  refine (if_neg (ne_n (j := 26) h (by omega) (by omega))).trans ?_
  refine (if_neg (ne_n (j := 27) h (by omega) (by omega))).trans ?_
  refine (if_neg (ne_n (j := 28) h (by omega) (by omega))).trans ?_
  refine (if_neg (ne_n (j := 29) h (by omega) (by omega))).trans ?_
  refine (if_neg (ne_n (j := 30) h (by omega) (by omega))).trans ?_
  refine (if_neg (ne_n (j := 31) h (by omega) (by omega))).trans ?_
  refine (if_neg (ne_n (j := 32) h (by omega) (by omega))).trans ?_
  refine (if_neg (ne_n (j := 33) h (by omega) (by omega))).trans ?_
  refine (if_pos h).trans ?_
  rw [XE1 hk hL, XE2 hk hL, O0b, zc e1, XE1 hk hL, XE2 hk hL, O126b, zc e2]
  refine (if_pos (of_eq_true (lgs r))).trans ?_
  rw [show nI k + (6 : Int32) = nI (k + 6) from x_add k 6]
theorem lc_35 (hN : 300 ≤ N) (hI : IV M R T hc) (hL : L ≤ 3072) (hk : k + 6 ≤ L) (h : xs k &&& (63 : Int32) = nI 35) : SL z N L xs k M := by
  intro r18
  obtain ⟨r, M1, M2, e1, e2, hI2⟩ := s_shift (z := z) N hN hI (xs (k + 1)) (xs (k + 2)) (xs (k + 3)) (xs (k + 4)) (xs (k + 5))
  have e1 : fX11_shift N (enc z M) z (xs (k + 1)) (xs (k + 2)) (xs (k + 3)) (xs (k + 4)) (xs (k + 5)) = some (r, enc z M1) := e1
  have e2 : fX12_shift N (enc z M1) (z + 126) (xs (k + 1)) (xs (k + 2)) (xs (k + 3)) (xs (k + 4)) (xs (k + 5)) = some (r, enc z M2) := e2
  refine ⟨M2, hI2, ?_⟩
  rw [bL_law_18]
  refine (if_neg (nlast hk hL)).trans ?_
  rw [XE0 hk hL, znm_]
  refine (if_neg (ne_n (j := 0) h (by omega) (by omega))).trans ?_
  refine (if_neg (ne_n (j := 1) h (by omega) (by omega))).trans ?_
  refine (if_neg (ne_n (j := 2) h (by omega) (by omega))).trans ?_
  refine (if_neg (ne_n (j := 3) h (by omega) (by omega))).trans ?_
  refine (if_neg (ne_n (j := 4) h (by omega) (by omega))).trans ?_
  refine (if_neg (ne_n (j := 5) h (by omega) (by omega))).trans ?_
  refine (if_neg (ne_n (j := 6) h (by omega) (by omega))).trans ?_
  refine (if_neg (ne_n (j := 7) h (by omega) (by omega))).trans ?_
  refine (if_neg (ne_n (j := 8) h (by omega) (by omega))).trans ?_
  refine (if_neg (ne_n (j := 9) h (by omega) (by omega))).trans ?_
  refine (if_neg (ne_n (j := 10) h (by omega) (by omega))).trans ?_
  refine (if_neg (ne_n (j := 11) h (by omega) (by omega))).trans ?_
  refine (if_neg (ne_n (j := 12) h (by omega) (by omega))).trans ?_
  refine (if_neg (ne_n (j := 13) h (by omega) (by omega))).trans ?_
  refine (if_neg (ne_n (j := 14) h (by omega) (by omega))).trans ?_
  refine (if_neg (ne_n (j := 15) h (by omega) (by omega))).trans ?_
  refine (if_neg (ne_n (j := 16) h (by omega) (by omega))).trans ?_
  refine (if_neg (ne_n (j := 17) h (by omega) (by omega))).trans ?_
  refine (if_neg (ne_n (j := 18) h (by omega) (by omega))).trans ?_
  refine (if_neg (ne_n (j := 19) h (by omega) (by omega))).trans ?_
  refine (if_neg (ne_n (j := 20) h (by omega) (by omega))).trans ?_
  refine (if_neg (ne_n (j := 21) h (by omega) (by omega))).trans ?_
  refine (if_neg (ne_n (j := 22) h (by omega) (by omega))).trans ?_
  refine (if_neg (ne_n (j := 23) h (by omega) (by omega))).trans ?_
  refine (if_neg (ne_n (j := 24) h (by omega) (by omega))).trans ?_
  refine (if_neg (ne_n (j := 25) h (by omega) (by omega))).trans ?_
  refine (if_neg (ne_n (j := 26) h (by omega) (by omega))).trans ?_
  refine (if_neg (ne_n (j := 27) h (by omega) (by omega))).trans ?_
  refine (if_neg (ne_n (j := 28) h (by omega) (by omega))).trans ?_
  refine (if_neg (ne_n (j := 29) h (by omega) (by omega))).trans ?_
  refine (if_neg (ne_n (j := 30) h (by omega) (by omega))).trans ?_
  refine (if_neg (ne_n (j := 31) h (by omega) (by omega))).trans ?_
  refine (if_neg (ne_n (j := 32) h (by omega) (by omega))).trans ?_
  refine (if_neg (ne_n (j := 33) h (by omega) (by omega))).trans ?_
  refine (if_neg (ne_n (j := 34) h (by omega) (by omega))).trans ?_
  refine (if_pos h).trans ?_
  rw [XE1 hk hL, XE2 hk hL, XE3 hk hL, XE4 hk hL, XE5 hk hL, O0b, zc e1, XE1 hk hL, XE2 hk hL, XE3 hk hL, XE4 hk hL, XE5 hk hL, O126b, zc e2, if_pos rfl, show nI k + (6 : Int32) = nI (k + 6) from x_add k 6]
theorem lc_d (hI : IV M R T hc) (hL : L ≤ 3072) (hk : k + 6 ≤ L) (h : ∀ j, j < 36 → ¬ xs k &&& (63 : Int32) = nI j) : SL z N L xs k M := by
  intro r18
  refine ⟨M, ⟨R, T, hc, hI⟩, ?_⟩
  rw [bL_law_18]
  refine (if_neg (nlast hk hL)).trans ?_
  rw [XE0 hk hL, znm_]
  refine (if_neg (h 0 (by omega))).trans ?_
  refine (if_neg (h 1 (by omega))).trans ?_
  refine (if_neg (h 2 (by omega))).trans ?_
  refine (if_neg (h 3 (by omega))).trans ?_
  refine (if_neg (h 4 (by omega))).trans ?_
  refine (if_neg (h 5 (by omega))).trans ?_
  refine (if_neg (h 6 (by omega))).trans ?_
  refine (if_neg (h 7 (by omega))).trans ?_
  refine (if_neg (h 8 (by omega))).trans ?_
  refine (if_neg (h 9 (by omega))).trans ?_
  refine (if_neg (h 10 (by omega))).trans ?_
  refine (if_neg (h 11 (by omega))).trans ?_
  refine (if_neg (h 12 (by omega))).trans ?_
  refine (if_neg (h 13 (by omega))).trans ?_
  refine (if_neg (h 14 (by omega))).trans ?_
  refine (if_neg (h 15 (by omega))).trans ?_
  refine (if_neg (h 16 (by omega))).trans ?_
  refine (if_neg (h 17 (by omega))).trans ?_
  refine (if_neg (h 18 (by omega))).trans ?_
  refine (if_neg (h 19 (by omega))).trans ?_
  refine (if_neg (h 20 (by omega))).trans ?_
  refine (if_neg (h 21 (by omega))).trans ?_
  refine (if_neg (h 22 (by omega))).trans ?_
  refine (if_neg (h 23 (by omega))).trans ?_
  refine (if_neg (h 24 (by omega))).trans ?_
  refine (if_neg (h 25 (by omega))).trans ?_
  refine (if_neg (h 26 (by omega))).trans ?_
  refine (if_neg (h 27 (by omega))).trans ?_
  refine (if_neg (h 28 (by omega))).trans ?_
  refine (if_neg (h 29 (by omega))).trans ?_
  refine (if_neg (h 30 (by omega))).trans ?_
  refine (if_neg (h 31 (by omega))).trans ?_
  refine (if_neg (h 32 (by omega))).trans ?_
  refine (if_neg (h 33 (by omega))).trans ?_
  refine (if_neg (h 34 (by omega))).trans ?_
  refine (if_neg (h 35 (by omega))).trans ?_
  rw [show nI k + (6 : Int32) = nI (k + 6) from x_add k 6]
theorem lc (hN : 300 ≤ N) (hI : IV M R T hc) (hL : L ≤ 3072) (hk : k + 6 ≤ L) : SL z N L xs k M := by
  rcases inR_c (xs k &&& (63 : Int32)) (n := 36) (by omega) with q | ⟨j, hj, e, _⟩
  · refine lc_d N hI hL hk (fun j hj q2 => ?_)
    rw [q2, inR_n (by omega) (by omega), decide_eq_true hj] at q
    cases q
  · obtain ⟨a, b, hb, rfl⟩ : ∃ a b, b < 6 ∧ j = 6 * a + b := ⟨j / 6, j % 6, Nat.mod_lt _ (by omega), by omega⟩
    rcases (show a = 0 ∨ a = 1 ∨ a = 2 ∨ a = 3 ∨ a = 4 ∨ a = 5 by omega) with rfl | rfl | rfl | rfl | rfl | rfl
    · rcases (show b = 0 ∨ b = 1 ∨ b = 2 ∨ b = 3 ∨ b = 4 ∨ b = 5 by omega) with rfl | rfl | rfl | rfl | rfl | rfl
      · exact lc_0 N hN hI hL hk e
      · exact lc_1 N hN hI hL hk e
      · exact lc_2 N hN hI hL hk e
      · exact lc_3 N hN hI hL hk e
      · exact lc_4 N hN hI hL hk e
      · exact lc_5 N hN hI hL hk e
    · rcases (show b = 0 ∨ b = 1 ∨ b = 2 ∨ b = 3 ∨ b = 4 ∨ b = 5 by omega) with rfl | rfl | rfl | rfl | rfl | rfl
      · exact lc_6 N hN hI hL hk e
      · exact lc_7 N hN hI hL hk e
      · exact lc_8 N hN hI hL hk e
      · exact lc_9 N hN hI hL hk e
      · exact lc_10 N hN hI hL hk e
      · exact lc_11 N hN hI hL hk e
    · rcases (show b = 0 ∨ b = 1 ∨ b = 2 ∨ b = 3 ∨ b = 4 ∨ b = 5 by omega) with rfl | rfl | rfl | rfl | rfl | rfl
      · exact lc_12 N hN hI hL hk e
      · exact lc_13 N hN hI hL hk e
      · exact lc_14 N hN hI hL hk e
      · exact lc_15 N hN hI hL hk e
      · exact lc_16 N hN hI hL hk e
      · exact lc_17 N hN hI hL hk e
    · rcases (show b = 0 ∨ b = 1 ∨ b = 2 ∨ b = 3 ∨ b = 4 ∨ b = 5 by omega) with rfl | rfl | rfl | rfl | rfl | rfl
      · exact lc_18 N hN hI hL hk e
      · exact lc_19 N hN hI hL hk e
      · exact lc_20 N hN hI hL hk e
      · exact lc_21 N hN hI hL hk e
      · exact lc_22 N hN hI hL hk e
      · exact lc_23 N hN hI hL hk e
    · rcases (show b = 0 ∨ b = 1 ∨ b = 2 ∨ b = 3 ∨ b = 4 ∨ b = 5 by omega) with rfl | rfl | rfl | rfl | rfl | rfl
      · exact lc_24 N hN hI hL hk e
      · exact lc_25 N hN hI hL hk e
      · exact lc_26 N hN hI hL hk e
      · exact lc_27 N hN hI hL hk e
      · exact lc_28 N hN hI hL hk e
      · exact lc_29 N hN hI hL hk e
    · rcases (show b = 0 ∨ b = 1 ∨ b = 2 ∨ b = 3 ∨ b = 4 ∨ b = 5 by omega) with rfl | rfl | rfl | rfl | rfl | rfl
      · exact lc_30 N hN hI hL hk e
      · exact lc_31 N hN hI hL hk e
      · exact lc_32 N hN hI hL hk e
      · exact lc_33 N hN hI hL hk e
      · exact lc_34 N hN hI hL hk e
      · exact lc_35 N hN hI hL hk e
theorem law_loop (hN : 300 ≤ N) (hL : L ≤ 3072) : ∀ m k (M : PM), k ≤ 3072 → 3072 - k < m → (∃ R T hc, IV M R T hc) → ∃ h', zfix (fun _ _ _ _ => none) (bL_law_18 L xs N) m (enc z M) z (z + 126) (nI k) = some (1, h') := by
  intro m
  induction m with
  | zero => intro k M _ h; omega
  | succ m ih =>
    intro k M hk hm hI
    rw [zfix_succ]
    by_cases h : k + 6 ≤ L
    · obtain ⟨R, T, hc, hI⟩ := hI
      obtain ⟨M', hI', e⟩ := lc (z := z) (xs := xs) N hN hI hL h (zfix (fun _ _ _ _ => none) (bL_law_18 L xs N) m)
      rw [e]
      exact ih (k + 6) M' (by omega) (by omega) hI'
    · refine ⟨enc z M, ?_⟩
      rw [bL_law_18]
      exact (if_pos (last (by omega) hk hL)).trans rfl
end
theorem law_all (L : Nat) (xs : Nat → Int32) (z : Nat) (hL : L ≤ 3072) : ∃ h', fL_law L xs 4000 (z, fun _ => none) = some (1, h') := by
  have e1 := ki11 4000 (z, fun _ => none) z rfl
  have e2 := ki12 4000 (ex (z, fun _ => none) (bkP z ++ bkS z)) (z + 126) (by show z + (bkP z ++ bkS z).length = z + 126; rw [lxP_eq, lxS_eq]; simp only [lxP, lxS, List.length_append, List.length_cons, List.length_nil])
  rw [ex_app (m' := bk12 (z + 126)), ex_enc] at e2
  obtain ⟨h', e3⟩ := law_loop (z := z) (L := L) (xs := xs) 4000 (by omega) hL 4000 0 M00 (by omega) (by omega) ⟨_, _, _, IV_0⟩
  refine ⟨h', ?_⟩
  rw [fL_law]
  show zcall (fX11_init 4000 (z + 1, va_up (fun _ => none) z (some _)) z) _ = _
  rw [show ((z + 1, va_up (fun _ => none) z (some _)) : AH) = ex (z, fun _ => none) [_] from up_one (H := (z, fun _ => none)) (fun _ _ => rfl), zc e1]
  have hz : (ex (z, fun _ => none) (bkP z ++ bkS z)).1 = z + 126 := by show z + (bkP z ++ bkS z).length = z + 126; rw [lxP_eq, lxS_eq]; simp only [lxP, lxS, List.length_append, List.length_cons, List.length_nil]
  unfold znew
  rw [up_one ex_no, hz]
  exact (zc e2).trans e3
