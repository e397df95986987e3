def SR (M : PM) (k : Nat) (L : List Nat) : Prop := L.length ≤ 100 ∧ M.1 k 2 = nI L.length ∧ (∀ i, i < L.length → M.1 (k + 1) i = nI (L.getD i 0)) ∧ ∀ x, x ∈ L → x < 8192
def Fk (k : Nat) (M M' : PM) : Prop := M'.2 = M.2 ∧ ∀ c j, c ≠ k + 1 → ¬ (c = k ∧ (j = 2 ∨ j = 7 ∨ j = 8)) → M'.1 c j = M.1 c j
theorem Fk_refl {k : Nat} {M : PM} : Fk k M M := ⟨rfl, fun _ _ _ _ => rfl⟩
theorem Fk_trans {k : Nat} {M M' M'' : PM} (h : Fk k M M') (h' : Fk k M' M'') : Fk k M M'' := ⟨h'.1.trans h.1, fun c j a b => (h'.2 c j a b).trans (h.2 c j a b)⟩
theorem Fk_set {k : Nat} {M : PM} {j : Nat} (hj : j = 2 ∨ j = 7 ∨ j = 8) (v : Int32) : Fk k M (setI M k j v) := ⟨rfl, fun c i _ h => by rw [setI_at, if_neg (fun q => h ⟨q.1, by rw [q.2]; exact hj⟩)]⟩
theorem PT_F {k n : Nat} {tx : Nat → Nat} {M M' : PM} (hk : isH k) (hF : Fk k M M') (hT : PT M k n tx) : PT M' k n tx := by
  obtain ⟨h6, hn, hB, ht⟩ := hT
  have h84 := isH_84 hk
  refine ⟨by rw [hF.2 k 6 (by omega) (by omega)]; exact h6, hn, by rw [hF.1]; exact hB, fun i hi => ?_⟩
  rw [hF.2 84 i h84.2.1 (fun q => h84.1 q.1)]
  exact ht i hi
theorem SR_set {k : Nat} {M : PM} {L : List Nat} (h : SR M k L) {j : Nat} (hj : 2 ≠ j) (v : Int32) : SR (setI M k j v) k L := ⟨h.1, by rw [setI_ne hj]; exact h.2.1, fun i hi => by rw [setI_nk (by omega)]; exact h.2.2.1 i hi, h.2.2.2⟩
def addM (M : PM) (k : Nat) (L : List Nat) (c : Nat) : PM := setI (setI M (k + 1) L.length (nI c)) k 2 (nI (L.length + 1))
theorem add_SR {M : PM} {k c : Nat} {L : List Nat} (h : SR M k L) (hl : L.length < 100) (hc : c < 8192) : SR (addM M k L c) k (L ++ [c]) := by
  refine ⟨by rw [List.length_append]; show L.length + 1 ≤ 100; omega, ?_, ?_, ?_⟩
  · rw [List.length_append]; exact setI_eq
  · intro i hi
    rw [List.length_append] at hi
    have hi : i < L.length + 1 := hi
    show (setI (setI M (k + 1) L.length (nI c)) k 2 (nI (L.length + 1))).1 (k + 1) i = _
    rw [setI_nk (by omega)]
    by_cases e : i = L.length
    · subst e
      rw [setI_eq]
      simp [List.getD_eq_getElem?_getD]
    · rw [setI_ne e, h.2.2.1 i (by omega)]
      have hi2 : i < L.length := by omega
      simp [List.getD_eq_getElem?_getD, List.getElem?_append_left hi2]
  · intro x hx
    rcases List.mem_append.mp hx with q | q
    · exact h.2.2.2 x q
    · rw [List.mem_singleton.mp q]; exact hc
theorem add_F {M : PM} {k c : Nat} {L : List Nat} : Fk k M (addM M k L c) := ⟨rfl, fun a j h1 h2 => by
  show (setI (setI M (k + 1) L.length (nI c)) k 2 (nI (L.length + 1))).1 a j = _
  rw [setI_at, if_neg (fun q => h2 ⟨q.1, Or.inl q.2⟩), setI_nk h1]⟩
theorem add_7 {M : PM} {k c : Nat} {L : List Nat} : (addM M k L c).1 k 7 = M.1 k 7 := by
  show (setI (setI M (k + 1) L.length (nI c)) k 2 (nI (L.length + 1))).1 k 7 = _
  rw [setI_ne (by omega), setI_nk (by omega)]
section
variable {z : Nat} {k n : Nat} {tx : Nat → Nat} (N : Nat)
theorem c_add (hk : isH k) {M : PM} {L : List Nat} (h : SR M k L) (hl : L.length < 100) (s w : Nat) : fX5_addStep N (enc z M) (z + k) (nI s) (nI w) = some (nI 1, enc z (addM M k L (s * 256 + w))) := by
  have h2 := h.2.1
  rw [fX5_addStep]
  simp only [lit]
  simp (disch := omega) only [↓znm_, ↓reduceIte, rn0, rn1, rbI, nle_t, nle_f, nlt_t, nlt_f, neq_t, neq_f, x_add, x_mul, x_sub, x_div, ↓x_rem, x_remN, setI_eq, setI_ne, setI_nk, setI_2, bn0, bn1, reduceCtorEq, ↓HOb hk, ↓HG0b hk, ↓HG2b hk, ↓HG4b hk, ↓HG6b hk, ↓HG7b hk, ↓HG8b hk, ↓HR1b hk, ↓HR3b hk, ↓HR5b hk, ↓HP0b hk, ↓HP2b hk, ↓HP4b hk, ↓HP6b hk, ↓HP7b hk, ↓HP8b hk, ↓HAb hk, ↓HSb hk, ↓HNb hk, ↓TAb hk, ↓TSb hk, ↓TNb hk, h2]
  rfl
theorem c_cmp {h : AH} {c x : Nat} (hc : c < 3) (v : Int32) : fX5_compares N h v (nI c) (nI x) = some (bI (tvI c x v), h) := by
  rw [fX5_compares]
  simp only [lit]
  rcases (show c = 0 ∨ c = 1 ∨ c = 2 by omega) with rfl | rfl | rfl
  · have e : tvI 0 x v = decide (v < nI x) := rfl
    by_cases q : v < nI x
    · have q2 : ¬ nI x ≤ v := Int32.not_le.mpr q
      simp (disch := omega) only [↓znm_, ↓reduceIte, rn0, rn1, rbI, nle_t, nle_f, nlt_t, nlt_f, neq_t, neq_f, x_add, x_mul, x_sub, x_div, ↓x_rem, x_remN, setI_eq, setI_ne, setI_nk, setI_2, bn0, bn1, reduceCtorEq, q2, e, decide_eq_true q]; rfl
    · have q2 : nI x ≤ v := Int32.not_lt.mp q
      simp (disch := omega) only [↓znm_, ↓reduceIte, rn0, rn1, rbI, nle_t, nle_f, nlt_t, nlt_f, neq_t, neq_f, x_add, x_mul, x_sub, x_div, ↓x_rem, x_remN, setI_eq, setI_ne, setI_nk, setI_2, bn0, bn1, reduceCtorEq, q2, e, decide_eq_false q]; rfl
  · have e : tvI 1 x v = decide (v = nI x) := rfl
    by_cases q : v = nI x
    · rw [e, decide_eq_true q]
      simp (disch := omega) only [↓znm_, ↓reduceIte, rn0, rn1, rbI, nle_t, nle_f, nlt_t, nlt_f, neq_t, neq_f, x_add, x_mul, x_sub, x_div, ↓x_rem, x_remN, setI_eq, setI_ne, setI_nk, setI_2, bn0, bn1, reduceCtorEq, q]; rfl
    · rw [e, decide_eq_false q]
      simp (disch := omega) only [↓znm_, ↓reduceIte, rn0, rn1, rbI, nle_t, nle_f, nlt_t, nlt_f, neq_t, neq_f, x_add, x_mul, x_sub, x_div, ↓x_rem, x_remN, setI_eq, setI_ne, setI_nk, setI_2, bn0, bn1, reduceCtorEq, q]; rfl
  · have e : tvI 2 x v = decide (nI x < v) := rfl
    by_cases q : nI x < v
    · have q2 : ¬ v ≤ nI x := Int32.not_le.mpr q
      simp (disch := omega) only [↓znm_, ↓reduceIte, rn0, rn1, rbI, nle_t, nle_f, nlt_t, nlt_f, neq_t, neq_f, x_add, x_mul, x_sub, x_div, ↓x_rem, x_remN, setI_eq, setI_ne, setI_nk, setI_2, bn0, bn1, reduceCtorEq, q2, e, decide_eq_true q]; rfl
    · have q2 : v ≤ nI x := Int32.not_lt.mp q
      simp (disch := omega) only [↓znm_, ↓reduceIte, rn0, rn1, rbI, nle_t, nle_f, nlt_t, nlt_f, neq_t, neq_f, x_add, x_mul, x_sub, x_div, ↓x_rem, x_remN, setI_eq, setI_ne, setI_nk, setI_2, bn0, bn1, reduceCtorEq, q2, e, decide_eq_false q]; rfl
theorem c_factsL {h : AH} {c x : Nat} (hc : c < 3) : ∀ m i, i ≤ 8 → 8 - i < m → zfix (fun _ _ _ _ _ => none) (bX5_factsThat_4 N) m h (nI c) (nI x) (nI (mkN (fun f => tvI c x (nI f)) i)) (nI i) = some (nI (mkN (fun f => tvI c x (nI f)) 8), h) := by
  intro m
  induction m with
  | zero => intro i _ h; omega
  | succ m ih =>
    intro i hi hm
    rw [zfix_succ, bX5_factsThat_4]
    simp only [lit]
    by_cases h8 : i = 8
    · subst h8
      simp (disch := omega) only [↓znm_, ↓reduceIte, rn0, rn1, rbI, nle_t, nle_f, nlt_t, nlt_f, neq_t, neq_f, x_add, x_mul, x_sub, x_div, ↓x_rem, x_remN, setI_eq, setI_ne, setI_nk, setI_2, bn0, bn1, reduceCtorEq]
    · cases hq : tvI c x (nI i) with
      | true =>
        have e := c_cmp N (h := h) (x := x) hc (nI i)
        rw [hq] at e
        simp (disch := omega) only [↓znm_, ↓reduceIte, rn0, rn1, rbI, nle_t, nle_f, nlt_t, nlt_f, neq_t, neq_f, x_add, x_mul, x_sub, x_div, ↓x_rem, x_remN, setI_eq, setI_ne, setI_nk, setI_2, bn0, bn1, reduceCtorEq, ↓zc e, bn0, x_sh1, x_or]
        have := ih (i + 1) (by omega) (by omega)
        rw [mkN, hq] at this
        exact this
      | false =>
        have e := c_cmp N (h := h) (x := x) hc (nI i)
        rw [hq] at e
        simp (disch := omega) only [↓znm_, ↓reduceIte, rn0, rn1, rbI, nle_t, nle_f, nlt_t, nlt_f, neq_t, neq_f, x_add, x_mul, x_sub, x_div, ↓x_rem, x_remN, setI_eq, setI_ne, setI_nk, setI_2, bn0, bn1, reduceCtorEq, ↓zc e, bn0]
        have := ih (i + 1) (by omega) (by omega)
        rw [mkN, hq, if_neg (by decide), Nat.or_zero] at this
        exact this
theorem c_facts (hN : 10 ≤ N) {h : AH} {c x : Nat} (hc : c < 3) : fX5_factsThat N h (nI c) (nI x) = some (nI (mkN (fun f => tvI c x (nI f)) 8), h) := c_factsL N hc N 0 (by omega) (by omega)
theorem i8 : ∀ c, c < 128 → (nI c).toInt8.toInt32 = nI c := by decide +kernel
theorem u16 : ∀ c, c < 128 → ((nI c).toUInt32 % 65536).toInt32 = nI c := by decide +kernel
def ixI (r : Nat) : Int32 := if r = 9 then -nI 1 else nI r
theorem ixT {s j : Nat} {h : AH} {c q e i : Nat} (hs : s < 7) (hb : zBb s (nI i) = some (nI e)) (hc : c < 128) (he : e < 128) (hq : q < 7) (hi : i < q) (r : AH → Nat → Int32 → Int32 → Int32 → Option (Int32 × AH)) : bJ1_indexOfChar_4cfef_7 N r h s (nI q) (nI c) (nI i) = if c = e then some (nI i, h) else r h s (nI q) (nI c) (nI (i + 1)) := by
  rw [bJ1_indexOfChar_4cfef_7]
  simp only [lit]
  by_cases hce : c = e
  · subst hce
    simp (disch := omega) only [↓znm_, ↓reduceIte, rn0, rn1, rbI, nle_t, nle_f, nlt_t, nlt_f, neq_t, neq_f, x_add, x_mul, x_sub, x_div, ↓x_rem, x_remN, setI_eq, setI_ne, setI_nk, setI_2, bn0, bn1, reduceCtorEq, ↓bnd hb]
  · simp (disch := omega) only [↓znm_, ↓reduceIte, rn0, rn1, rbI, nle_t, nle_f, nlt_t, nlt_f, neq_t, neq_f, x_add, x_mul, x_sub, x_div, ↓x_rem, x_remN, setI_eq, setI_ne, setI_nk, setI_2, bn0, bn1, reduceCtorEq, ↓bnd hb, hce]
theorem ixE {s : Nat} {h : AH} {c q : Nat} (hq : q < 7) (r : AH → Nat → Int32 → Int32 → Int32 → Option (Int32 × AH)) : bJ1_indexOfChar_4cfef_7 N r h s (nI q) (nI c) (nI q) = some (-nI 1, h) := by
  rw [bJ1_indexOfChar_4cfef_7]
  simp only [lit]
  simp (disch := omega) only [↓znm_, ↓reduceIte, rn0, rn1, rbI, nle_t, nle_f, nlt_t, nlt_f, neq_t, neq_f, x_add, x_mul, x_sub, x_div, ↓x_rem, x_remN, setI_eq, setI_ne, setI_nk, setI_2, bn0, bn1, reduceCtorEq]
theorem zfN {S : Type} (bot : S) (body : S → S) {N m j : Nat} (h : N = m + j) : zfix bot body N = zfix bot body (m + j) := congrArg _ h
theorem ix5 (hN : 10 ≤ N) {h : AH} {c : Nat} (hc : c < 128) : fJ0_indexOf_0f7a4 N h 5 (nI c) = some (ixI (li c), h) := by
  obtain ⟨m, hm⟩ : ∃ m, N = m + 7 := ⟨N - 7, by omega⟩
  have e1 : fJ0_isLatin1_aae02 N h 5 = some (nI 1, h) := rfl
  have e2 : fJ0_length_8abf5 N h 5 = some (nI 6, h) := rfl
  have e3 : zBl 5 = some (nI 6) := rfl
  have e4 : fJ1_canEncode_9a6ad N h (nI c) = some (nI 1, h) := by
    rw [fJ1_canEncode_9a6ad]; simp only [lit]; simp (disch := omega) only [↓znm_, ↓reduceIte, rn0, rn1, rbI, nle_t, nle_f, nlt_t, nlt_f, neq_t, neq_f, x_add, x_mul, x_sub, x_div, ↓x_rem, x_remN, setI_eq, setI_ne, setI_nk, setI_2, bn0, bn1, reduceCtorEq]
  have e5 : fJ1_indexOfChar_4cfef N h 5 (nI c) (nI 0) (nI 6) = some (ixI (li c), h) := by
    rw [fJ1_indexOfChar_4cfef, i8 c hc, znm_, zfN _ _ hm]
    simp only [zfix_succ]
    rw [ixT N (j := 0) (by omega) (show zBb 5 (nI 0) = some (nI 112) from rfl) hc (by omega) (by omega) (by omega), ixT N (j := 0) (by omega) (show zBb 5 (nI 1) = some (nI 107) from rfl) hc (by omega) (by omega) (by omega), ixT N (j := 0) (by omega) (show zBb 5 (nI 2) = some (nI 118) from rfl) hc (by omega) (by omega) (by omega), ixT N (j := 0) (by omega) (show zBb 5 (nI 3) = some (nI 102) from rfl) hc (by omega) (by omega) (by omega), ixT N (j := 0) (by omega) (show zBb 5 (nI 4) = some (nI 100) from rfl) hc (by omega) (by omega) (by omega), ixT N (j := 0) (by omega) (show zBb 5 (nI 5) = some (nI 115) from rfl) hc (by omega) (by omega) (by omega), ixE N (by omega)]
    unfold li
    by_cases q1 : c = 112
    · simp only [q1, if_true]; rfl
    · by_cases q2 : c = 107
      · simp only [q1, q2, if_true, if_false]; rfl
      · by_cases q3 : c = 118
        · simp only [q1, q2, q3, if_true, if_false]; rfl
        · by_cases q4 : c = 102
          · simp only [q1, q2, q3, q4, if_true, if_false]; rfl
          · by_cases q5 : c = 100
            · simp only [q1, q2, q3, q4, q5, if_true, if_false]; rfl
            · by_cases q6 : c = 115
              · simp only [q1, q2, q3, q4, q5, q6, if_true, if_false]; rfl
              · simp only [q1, q2, q3, q4, q5, q6, if_false]; rfl
  have e6 : fJ1_indexOf_4cfef N h 5 (nI c) (nI 0) (nI 6) = some (ixI (li c), h) := by
    rw [fJ1_indexOf_4cfef]; simp only [lit]
    simp (disch := omega) only [↓znm_, ↓reduceIte, rn0, rn1, rbI, nle_t, nle_f, nlt_t, nlt_f, neq_t, neq_f, x_add, x_mul, x_sub, x_div, ↓x_rem, x_remN, setI_eq, setI_ne, setI_nk, setI_2, bn0, bn1, reduceCtorEq, ↓zc e4, ↓bnd e3, ↓zc e5]
  rw [fJ0_indexOf_0f7a4, bnd (w_sv 5 (by omega)), zc (r := ixI (li c)) (h := h)]
  rw [fJ0_indexOf_7cf53]; simp only [lit]
  simp (disch := omega) only [↓znm_, ↓reduceIte, rn0, rn1, rbI, nle_t, nle_f, nlt_t, nlt_f, neq_t, neq_f, x_add, x_mul, x_sub, x_div, ↓x_rem, x_remN, setI_eq, setI_ne, setI_nk, setI_2, bn0, bn1, reduceCtorEq, ↓bnd (w_sv 5 (by omega)), ↓zc e1, ↓zc e2, ↓zc e6]
theorem ix6 (hN : 10 ≤ N) {h : AH} {c : Nat} (hc : c < 128) : fJ0_indexOf_0f7a4 N h 6 (nI c) = some (ixI (ci c), h) := by
  obtain ⟨m, hm⟩ : ∃ m, N = m + 4 := ⟨N - 4, by omega⟩
  have e1 : fJ0_isLatin1_aae02 N h 6 = some (nI 1, h) := rfl
  have e2 : fJ0_length_8abf5 N h 6 = some (nI 3, h) := rfl
  have e3 : zBl 6 = some (nI 3) := rfl
  have e4 : fJ1_canEncode_9a6ad N h (nI c) = some (nI 1, h) := by
    rw [fJ1_canEncode_9a6ad]; simp only [lit]; simp (disch := omega) only [↓znm_, ↓reduceIte, rn0, rn1, rbI, nle_t, nle_f, nlt_t, nlt_f, neq_t, neq_f, x_add, x_mul, x_sub, x_div, ↓x_rem, x_remN, setI_eq, setI_ne, setI_nk, setI_2, bn0, bn1, reduceCtorEq]
  have e5 : fJ1_indexOfChar_4cfef N h 6 (nI c) (nI 0) (nI 3) = some (ixI (ci c), h) := by
    rw [fJ1_indexOfChar_4cfef, i8 c hc, znm_, zfN _ _ hm]
    simp only [zfix_succ]
    rw [ixT N (j := 0) (by omega) (show zBb 6 (nI 0) = some (nI 60) from rfl) hc (by omega) (by omega) (by omega), ixT N (j := 0) (by omega) (show zBb 6 (nI 1) = some (nI 61) from rfl) hc (by omega) (by omega) (by omega), ixT N (j := 0) (by omega) (show zBb 6 (nI 2) = some (nI 62) from rfl) hc (by omega) (by omega) (by omega), ixE N (by omega)]
    unfold ci
    by_cases q1 : c = 60
    · simp only [q1, if_true]; rfl
    · by_cases q2 : c = 61
      · simp only [q1, q2, if_true, if_false]; rfl
      · by_cases q3 : c = 62
        · simp only [q1, q2, q3, if_true, if_false]; rfl
        · simp only [q1, q2, q3, if_false]; rfl
  have e6 : fJ1_indexOf_4cfef N h 6 (nI c) (nI 0) (nI 3) = some (ixI (ci c), h) := by
    rw [fJ1_indexOf_4cfef]; simp only [lit]
    simp (disch := omega) only [↓znm_, ↓reduceIte, rn0, rn1, rbI, nle_t, nle_f, nlt_t, nlt_f, neq_t, neq_f, x_add, x_mul, x_sub, x_div, ↓x_rem, x_remN, setI_eq, setI_ne, setI_nk, setI_2, bn0, bn1, reduceCtorEq, ↓zc e4, ↓bnd e3, ↓zc e5]
  rw [fJ0_indexOf_0f7a4, bnd (w_sv 6 (by omega)), zc (r := ixI (ci c)) (h := h)]
  rw [fJ0_indexOf_7cf53]; simp only [lit]
  simp (disch := omega) only [↓znm_, ↓reduceIte, rn0, rn1, rbI, nle_t, nle_f, nlt_t, nlt_f, neq_t, neq_f, x_add, x_mul, x_sub, x_div, ↓x_rem, x_remN, setI_eq, setI_ne, setI_nk, setI_2, bn0, bn1, reduceCtorEq, ↓bnd (w_sv 6 (by omega)), ↓zc e1, ↓zc e2, ↓zc e6]
theorem ixM (s : Nat) (hs : s = 5 ∨ s = 6) {h : AH} : fJ0_indexOf_0f7a4 N h s (nI 65535) = some (-nI 1, h) := by
  have e4 : fJ1_canEncode_9a6ad N h (nI 65535) = some (nI 0, h) := by
    rw [fJ1_canEncode_9a6ad]; simp only [lit]; simp (disch := omega) only [↓znm_, ↓reduceIte, rn0, rn1, rbI, nle_t, nle_f, nlt_t, nlt_f, neq_t, neq_f, x_add, x_mul, x_sub, x_div, ↓x_rem, x_remN, setI_eq, setI_ne, setI_nk, setI_2, bn0, bn1, reduceCtorEq]
  rcases hs with rfl | rfl
  · have e1 : fJ0_isLatin1_aae02 N h 5 = some (nI 1, h) := rfl
    have e2 : fJ0_length_8abf5 N h 5 = some (nI 6, h) := rfl
    have e6 : fJ1_indexOf_4cfef N h 5 (nI 65535) (nI 0) (nI 6) = some (-nI 1, h) := by
      rw [fJ1_indexOf_4cfef]; simp only [lit]
      simp (disch := omega) only [↓znm_, ↓reduceIte, rn0, rn1, rbI, nle_t, nle_f, nlt_t, nlt_f, neq_t, neq_f, x_add, x_mul, x_sub, x_div, ↓x_rem, x_remN, setI_eq, setI_ne, setI_nk, setI_2, bn0, bn1, reduceCtorEq, ↓zc e4]
    rw [fJ0_indexOf_0f7a4, bnd (w_sv 5 (by omega)), zc (r := -nI 1) (h := h)]
    rw [fJ0_indexOf_7cf53]; simp only [lit]
    simp (disch := omega) only [↓znm_, ↓reduceIte, rn0, rn1, rbI, nle_t, nle_f, nlt_t, nlt_f, neq_t, neq_f, x_add, x_mul, x_sub, x_div, ↓x_rem, x_remN, setI_eq, setI_ne, setI_nk, setI_2, bn0, bn1, reduceCtorEq, ↓bnd (w_sv 5 (by omega)), ↓zc e1, ↓zc e2, ↓zc e6]
  · have e1 : fJ0_isLatin1_aae02 N h 6 = some (nI 1, h) := rfl
    have e2 : fJ0_length_8abf5 N h 6 = some (nI 3, h) := rfl
    have e6 : fJ1_indexOf_4cfef N h 6 (nI 65535) (nI 0) (nI 3) = some (-nI 1, h) := by
      rw [fJ1_indexOf_4cfef]; simp only [lit]
      simp (disch := omega) only [↓znm_, ↓reduceIte, rn0, rn1, rbI, nle_t, nle_f, nlt_t, nlt_f, neq_t, neq_f, x_add, x_mul, x_sub, x_div, ↓x_rem, x_remN, setI_eq, setI_ne, setI_nk, setI_2, bn0, bn1, reduceCtorEq, ↓zc e4]
    rw [fJ0_indexOf_0f7a4, bnd (w_sv 6 (by omega)), zc (r := -nI 1) (h := h)]
    rw [fJ0_indexOf_7cf53]; simp only [lit]
    simp (disch := omega) only [↓znm_, ↓reduceIte, rn0, rn1, rbI, nle_t, nle_f, nlt_t, nlt_f, neq_t, neq_f, x_add, x_mul, x_sub, x_div, ↓x_rem, x_remN, setI_eq, setI_ne, setI_nk, setI_2, bn0, bn1, reduceCtorEq, ↓bnd (w_sv 6 (by omega)), ↓zc e1, ↓zc e2, ↓zc e6]
theorem ixs5 (hN : 10 ≤ N) {M : PM} (hT : PT M k n tx) {h : AH} {a : Nat} : fJ0_indexOf_0f7a4 N h 5 (((sgI tx n a).toUInt32 % 65536).toInt32) = some (ixI (li (cu tx n a)), h) := by
  unfold sgI cu
  by_cases q : a < n
  · have := (hT.2.2.2 a q).2
    rw [if_pos q, if_pos q, u16 _ this, ix5 N hN this]
  · rw [if_neg q, if_neg q, show ((-nI 1 : Int32).toUInt32 % 65536).toInt32 = nI 65535 by decide +kernel, ixM N 5 (Or.inl rfl)]
    rfl
theorem ixs6 (hN : 10 ≤ N) {M : PM} (hT : PT M k n tx) {h : AH} {a : Nat} : fJ0_indexOf_0f7a4 N h 6 (((sgI tx n a).toUInt32 % 65536).toInt32) = some (ixI (ci (cu tx n a)), h) := by
  unfold sgI cu
  by_cases q : a < n
  · have := (hT.2.2.2 a q).2
    rw [if_pos q, if_pos q, u16 _ this, ix6 N hN this]
  · rw [if_neg q, if_neg q, show ((-nI 1 : Int32).toUInt32 % 65536).toInt32 = nI 65535 by decide +kernel, ixM N 6 (Or.inr rfl)]
    rfl
end
