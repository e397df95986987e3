theorem shO_ne {b y y' k : Nat} (h : k - b ≠ 0) : shO b y k = shO b y' k := by
  unfold shO
  rcases hq : k - b with _ | _ | _ | n
  · exact absurd hq h
  · rfl
  · rfl
  · rfl
theorem shp_set {B : Nat → Nat} {k v : Nat} {a : Nat} (ha : a ≠ k) : shp (fun x => if x = k then v else B x) a = shp B a := by
  unfold shp
  by_cases h1 : a < 1
  · rw [if_pos h1, if_pos h1]
  rw [if_neg h1, if_neg h1]
  by_cases h2 : a < 36
  · rw [if_pos h2, if_pos h2]
  rw [if_neg h2, if_neg h2]
  by_cases h3 : a < 71
  · rw [if_pos h3, if_pos h3]
  rw [if_neg h3, if_neg h3]
  by_cases h4 : a < 72
  · rw [if_pos h4, if_pos h4]
  rw [if_neg h4, if_neg h4]
  by_cases h5 : a < 79
  · rw [if_pos h5, if_pos h5]
  rw [if_neg h5, if_neg h5]
  by_cases h6 : a < 83
  · rw [if_pos h6, if_pos h6]
    by_cases e : a = 79
    · have e2 : (if 79 = k then v else B 79) = B 79 := if_neg (by omega)
      show shO 79 (if 79 = k then v else B 79) a = _
      rw [e2]
    · exact shO_ne (by omega)
  rw [if_neg h6, if_neg h6]
  by_cases h7 : a < 84
  · rw [if_pos h7, if_pos h7]
  rw [if_neg h7, if_neg h7]
  by_cases h8 : a < 85
  · rw [if_pos h8, if_pos h8]
  rw [if_neg h8, if_neg h8]
  by_cases h9 : a < 86
  · rw [if_pos h9, if_pos h9]
  rw [if_neg h9, if_neg h9]
  by_cases h10 : a < 87
  · rw [if_pos h10, if_pos h10]
  rw [if_neg h10, if_neg h10]
  by_cases h11 : a < 88
  · rw [if_pos h11, if_pos h11]
  rw [if_neg h11, if_neg h11]
  by_cases h12 : a < 89
  · rw [if_pos h12, if_pos h12]
  rw [if_neg h12, if_neg h12]
  by_cases h13 : a < 90
  · rw [if_pos h13, if_pos h13]
  rw [if_neg h13, if_neg h13]
  by_cases h14 : a < 114
  · rw [if_pos h14, if_pos h14]
    by_cases e : a = 90 + 4 * ((a - 90) / 4)
    · have e2 : (if 90 + 4 * ((a - 90) / 4) = k then v else B (90 + 4 * ((a - 90) / 4))) = B (90 + 4 * ((a - 90) / 4)) := if_neg (by omega)
      show shO _ (if 90 + 4 * ((a - 90) / 4) = k then v else B (90 + 4 * ((a - 90) / 4))) a = _
      rw [e2]
    · exact shO_ne (by omega)
  rw [if_neg h14, if_neg h14]
theorem HPB {z : Nat} {M : PM} {k b : Nat} (hk : isH k) : zput (enc z M) (z + k) 5 5 (.ref (z + b)) = some (enc z (setB M k b)) := by
  unfold zput
  rw [e_obj (sh_H hk).1]
  simp only [List.length_mapIdx]
  rw [if_pos ⟨trivial, by show 5 < 9; omega⟩]
  refine congrArg some (Prod.ext rfl (funext fun a => ?_))
  by_cases ha : a = z + k
  · subst ha
    rw [enc_at, (sh_H hk).1]
    show (if z + k = z + k then _ else _) = _
    rw [if_pos rfl]
    have : (setB M k b).2.2 k = b := by show (if k = k then b else _) = b; rw [if_pos rfl]
    rw [this]
    rfl
  · show va_up (enc z M).2 (z + k) _ a = _
    rw [show ∀ v, va_up (enc z M).2 (z + k) v a = (enc z M).2 a by intro v; simp [va_up, ha]]
    by_cases hz : z ≤ a
    · have e : a = z + (a - z) := by omega
      have hk2 : a - z ≠ k := by omega
      rw [e, enc_at, enc_at, show (setB M k b).2.2 = fun x => if x = k then b else M.2.2 x from rfl, shp_set hk2]
      cases shp M.2.2 (a - z) with
      | none => rfl
      | some q => show some _ = some _; rw [mk_other (M := M) (M' := setB M k b) rfl rfl]
    · show (if z ≤ a then _ else none) = (if z ≤ a then _ else none)
      rw [if_neg hz, if_neg hz]
theorem pCl_pg (tx : Nat → Nat) (n a : Nat) (ha : a ≤ n) : (pCl tx n a).2.1 ≤ n := by
  have hW : ∀ l b, (∀ c, c ∈ l → c < 999) → b ≤ n → (pWord tx n l b).2 ≤ n := fun l b h1 h2 => (pWord_pg tx n l b h1 h2).2.1
  have h0 : ∀ kd w, w.2 ≤ n → (pCl0 tx n kd w).2.1 ≤ n := by
    intro kd w hw
    unfold pCl0
    split
    · unfold pCl1
      have hq := pNum_pg tx n w.2 hw
      split
      · unfold pCl2
        have hs := hW [32] (pNum tx n w.2).2.1 (by decide) hq.2.1
        split
        · exact (pAny_pg (pFac_pg tx n 4) _ hs).2.1
        · exact hs
      · exact hq.2.1
    · exact hw
  unfold pCl
  split
  · have hw := hW [104, 111, 117, 114, 115, 32] a (by decide) ha
    unfold pHr0
    split
    · exact (pNum_pg tx n _ hw).2.1
    · exact hw
  · split
    · exact h0 _ _ (hW _ a (by decide) ha)
    · exact h0 _ _ (hW _ a (by decide) ha)
theorem pRest_pg (tx : Nat → Nat) (n : Nat) : ∀ m (r : AR), r.2.1 ≤ n → (pRest tx n m r).2.1 ≤ n := by
  intro m
  induction m with
  | zero => intro r h; exact h
  | succ m ih =>
    intro r h
    rw [pRest]
    split
    · rename_i q
      exact ih _ (pCl_pg tx n _ (by have := cu_lt q.2 (by omega); omega))
    · exact h
theorem pAll_pg (tx : Nat → Nat) (n : Nat) : (pAll tx n).2.1 ≤ n := pRest_pg tx n 9 _ (pCl_pg tx n 0 (by omega))
/-- the house at k gives the hours h and the sums S -/
def HK (M : PM) (k h : Nat) (S : SF) : Prop := ∃ L, SR M k L ∧ (HC L S ∧ NF L) ∧ M.1 k 0 = nI h
def CA (z k : Nat) (M : PM) (n : Nat) (x : Option (Int32 × AH)) (r : AR) : Prop :=
  ∃ M', x = some (if r.1 = true ∧ r.2.1 = n then -nI 1 else nI r.2.1, enc z M') ∧ Fk0 k M M' ∧ (r.1 = true ∧ r.2.1 = n → HK M' k r.2.2.1 r.2.2.2)
section
variable {z : Nat} {k n : Nat} {tx : Nat → Nat} (N : Nat)
theorem c_setL (hN : 10 ≤ N) (hk : isH k) {L : List Nat} {M0 : PM} (hS : SR M0 k L) : ∀ m i (M : PM), i ≤ L.length → L.length - i < m → M.2 = M0.2 → (∀ c j, c ≠ k + 1 → M.1 c j = M0.1 c j) → (∀ j, j < L.length → M.1 (k + 1) j = nI (if j < i then stl (L.getD j 0) else L.getD j 0)) → ∃ M', zfix (fun _ _ _ => none) (bX5_settleFactTests_2 N) m (enc z M) (z + k) (nI i) = some ((), enc z M') ∧ M'.2 = M0.2 ∧ (∀ c j, c ≠ k + 1 → M'.1 c j = M0.1 c j) ∧ ∀ j, j < L.length → M'.1 (k + 1) j = nI (stl (L.getD j 0)) := by
  have hl := hS.1
  intro m
  induction m with
  | zero => intro i M _ h; omega
  | succ m ih =>
    intro i M hi hm h2 hF hv
    have h2k : M.1 k 2 = nI L.length := by rw [hF k 2 (by omega)]; exact hS.2.1
    rw [zfix_succ, bX5_settleFactTests_2]
    simp only [lit]
    by_cases hiL : i = L.length
    · subst hiL
      refine ⟨M, ?_, h2, hF, fun j hj => by rw [hv j hj, if_pos hj]⟩
      simp (disch := omega) only [↓znm_, ↓reduceIte, rn0, rn1, rbI, nle_t, nle_f, nlt_t, nlt_f, neq_t, neq_f, x_add, x_mul, x_sub, x_div, ↓x_rem, x_remN, setI_eq, setI_ne, setI_nk, setI_2, bn0, bn1, reduceCtorEq, ↓HOb hk, ↓HG0b hk, ↓HG2b hk, ↓HG4b hk, ↓HG6b hk, ↓HG7b hk, ↓HG8b hk, ↓HR1b hk, ↓HR3b hk, ↓HR5b hk, ↓HP0b hk, ↓HP2b hk, ↓HP4b hk, ↓HP6b hk, ↓HP7b hk, ↓HP8b hk, ↓HAb hk, ↓HSb hk, ↓HNb hk, ↓TAb hk, ↓TSb hk, ↓TNb hk, h2k]
    · have hvi := hv i (by omega)
      rw [if_neg (Nat.lt_irrefl i)] at hvi
      have hc : L.getD i 0 < 8192 := hS.2.2.2 _ (by
        rw [List.getD_eq_getElem?_getD, List.getElem?_eq_getElem (by omega : i < L.length)]
        exact List.getElem_mem _)
      generalize hcc : L.getD i 0 = c at hvi hc
      have nxt := fun (M2 : PM) => ih (i + 1) M2 (by omega) (by omega)
      have same : stl c = c → ∀ j, j < L.length → M.1 (k + 1) j = nI (if j < i + 1 then stl (L.getD j 0) else L.getD j 0) := by
        intro q j hj
        rw [hv j hj]
        by_cases e : j = i
        · subst e
          rw [if_neg (Nat.lt_irrefl j), if_pos (Nat.lt_succ_self j), hcc, q]
        · by_cases e2 : j < i
          · rw [if_pos e2, if_pos (by omega)]
          · rw [if_neg e2, if_neg (by omega)]
      by_cases k3 : c / 256 / 3 = 3
      · have e6 := c_facts N hN (h := enc z M) (c := c / 256 % 3) (x := c % 256) (by omega)
        have es : stl c = 4608 + mkN (fun f => tvI (c / 256 % 3) (c % 256) (nI f)) 8 := by unfold stl; rw [if_pos k3]
        have fin := nxt (setI M (k + 1) i (nI (stl c))) h2 (fun a j h => by rw [setI_nk h]; exact hF a j h) (fun j hj => by
          by_cases e : j = i
          · subst e
            rw [setI_eq, if_pos (Nat.lt_succ_self j), hcc]
          · rw [setI_ne e, hv j hj]
            by_cases e2 : j < i
            · rw [if_pos e2, if_pos (by omega)]
            · rw [if_neg e2, if_neg (by omega)])
        simp (disch := omega) only [↓znm_, ↓reduceIte, rn0, rn1, rbI, nle_t, nle_f, nlt_t, nlt_f, neq_t, neq_f, x_add, x_mul, x_sub, x_div, ↓x_rem, x_remN, setI_eq, setI_ne, setI_nk, setI_2, bn0, bn1, reduceCtorEq, ↓HOb hk, ↓HG0b hk, ↓HG2b hk, ↓HG4b hk, ↓HG6b hk, ↓HG7b hk, ↓HG8b hk, ↓HR1b hk, ↓HR3b hk, ↓HR5b hk, ↓HP0b hk, ↓HP2b hk, ↓HP4b hk, ↓HP6b hk, ↓HP7b hk, ↓HP8b hk, ↓HAb hk, ↓HSb hk, ↓HNb hk, ↓TAb hk, ↓TSb hk, ↓TNb hk, h2k, hvi, ↓zc e6]
        rw [es] at fin
        exact fin
      · have q : stl c = c := by unfold stl; rw [if_neg k3]
        have fin := nxt M h2 hF (same q)
        by_cases k18 : c / 256 < 18
        · simp (disch := omega) only [↓znm_, ↓reduceIte, rn0, rn1, rbI, nle_t, nle_f, nlt_t, nlt_f, neq_t, neq_f, x_add, x_mul, x_sub, x_div, ↓x_rem, x_remN, setI_eq, setI_ne, setI_nk, setI_2, bn0, bn1, reduceCtorEq, ↓HOb hk, ↓HG0b hk, ↓HG2b hk, ↓HG4b hk, ↓HG6b hk, ↓HG7b hk, ↓HG8b hk, ↓HR1b hk, ↓HR3b hk, ↓HR5b hk, ↓HP0b hk, ↓HP2b hk, ↓HP4b hk, ↓HP6b hk, ↓HP7b hk, ↓HP8b hk, ↓HAb hk, ↓HSb hk, ↓HNb hk, ↓TAb hk, ↓TSb hk, ↓TNb hk, h2k, hvi]
          exact fin
        · simp (disch := omega) only [↓znm_, ↓reduceIte, rn0, rn1, rbI, nle_t, nle_f, nlt_t, nlt_f, neq_t, neq_f, x_add, x_mul, x_sub, x_div, ↓x_rem, x_remN, setI_eq, setI_ne, setI_nk, setI_2, bn0, bn1, reduceCtorEq, ↓HOb hk, ↓HG0b hk, ↓HG2b hk, ↓HG4b hk, ↓HG6b hk, ↓HG7b hk, ↓HG8b hk, ↓HR1b hk, ↓HR3b hk, ↓HR5b hk, ↓HP0b hk, ↓HP2b hk, ↓HP4b hk, ↓HP6b hk, ↓HP7b hk, ↓HP8b hk, ↓HAb hk, ↓HSb hk, ↓HNb hk, ↓TAb hk, ↓TSb hk, ↓TNb hk, h2k, hvi]
          exact fin
theorem c_settle (hN : 200 ≤ N) (hk : isH k) {L : List Nat} {M : PM} (hS : SR M k L) : ∃ M', fX5_settleFactTests N (enc z M) (z + k) = some ((), enc z M') ∧ M'.2 = M.2 ∧ (∀ c j, c ≠ k + 1 → M'.1 c j = M.1 c j) ∧ SR M' k (L.map stl) := by
  have hl := hS.1
  obtain ⟨M', f1, f2, f3, f4⟩ := c_setL (z := z) N (by omega) hk hS N 0 M (by omega) (by omega) rfl (fun _ _ _ => rfl) (fun j hj => by rw [if_neg (Nat.not_lt_zero j)]; exact hS.2.2.1 j hj)
  refine ⟨M', f1, f2, f3, by rw [List.length_map]; exact hl, by rw [List.length_map, f3 k 2 (by omega)]; exact hS.2.1, fun i hi => ?_, fun x hx => ?_⟩
  · rw [List.length_map] at hi
    rw [f4 i hi]
    simp [List.getD_eq_getElem?_getD, hi]
  · obtain ⟨c, h1, h2⟩ := List.mem_map.mp hx
    rw [← h2]
    exact stl_lt (hS.2.2.2 c h1)
theorem c_l80 (hN : 200 ≤ N) (hk : isH k) {M : PM} {a : Nat} {ok : Bool} {L : List Nat} (hT : PT M k n tx) (ha : M.1 k 7 = nI a) (han : a ≤ n) (hS : SR M k L) : ∃ M', bX5_learn_80 N (enc z M) (z + k) (bI ok) = some (if ok = true ∧ a = n then -nI 1 else nI a, enc z M') ∧ M'.2 = M.2 ∧ (∀ c j, c ≠ k + 1 → M'.1 c j = M.1 c j) ∧ (ok = true ∧ a = n → SR M' k (L.map stl)) := by
  have h6 := hT.1
  have hn := hT.2.1
  rw [bX5_learn_80]
  simp only [lit]
  cases ok with
  | false =>
    rw [if_neg (fun q : false = true ∧ a = n => by cases q.1)]
    refine ⟨M, ?_, rfl, fun _ _ _ => rfl, fun q => by cases q.1⟩
    simp (disch := omega) only [↓znm_, ↓reduceIte, rn0, rn1, rbI, nle_t, nle_f, nlt_t, nlt_f, neq_t, neq_f, x_add, x_mul, x_sub, x_div, ↓x_rem, x_remN, setI_eq, setI_ne, setI_nk, setI_2, bn0, bn1, reduceCtorEq, ↓HOb hk, ↓HG0b hk, ↓HG2b hk, ↓HG4b hk, ↓HG6b hk, ↓HG7b hk, ↓HG8b hk, ↓HR1b hk, ↓HR3b hk, ↓HR5b hk, ↓HP0b hk, ↓HP2b hk, ↓HP4b hk, ↓HP6b hk, ↓HP7b hk, ↓HP8b hk, ↓HAb hk, ↓HSb hk, ↓HNb hk, ↓TAb hk, ↓TSb hk, ↓TNb hk, ha]
  | true =>
    by_cases q : a = n
    · rw [if_pos ⟨rfl, q⟩]
      obtain ⟨M', f1, f2, f3, f4⟩ := c_settle (z := z) N hN hk hS
      refine ⟨M', ?_, f2, f3, fun _ => f4⟩
      simp (disch := omega) only [↓znm_, ↓reduceIte, rn0, rn1, rbI, nle_t, nle_f, nlt_t, nlt_f, neq_t, neq_f, x_add, x_mul, x_sub, x_div, ↓x_rem, x_remN, setI_eq, setI_ne, setI_nk, setI_2, bn0, bn1, reduceCtorEq, ↓HOb hk, ↓HG0b hk, ↓HG2b hk, ↓HG4b hk, ↓HG6b hk, ↓HG7b hk, ↓HG8b hk, ↓HR1b hk, ↓HR3b hk, ↓HR5b hk, ↓HP0b hk, ↓HP2b hk, ↓HP4b hk, ↓HP6b hk, ↓HP7b hk, ↓HP8b hk, ↓HAb hk, ↓HSb hk, ↓HNb hk, ↓TAb hk, ↓TSb hk, ↓TNb hk, ha, h6, q, ↓zc f1]
    · rw [if_neg (fun w => q w.2)]
      refine ⟨M, ?_, rfl, fun _ _ _ => rfl, fun w => absurd w.2 q⟩
      simp (disch := omega) only [↓znm_, ↓reduceIte, rn0, rn1, rbI, nle_t, nle_f, nlt_t, nlt_f, neq_t, neq_f, x_add, x_mul, x_sub, x_div, ↓x_rem, x_remN, setI_eq, setI_ne, setI_nk, setI_2, bn0, bn1, reduceCtorEq, ↓HOb hk, ↓HG0b hk, ↓HG2b hk, ↓HG4b hk, ↓HG6b hk, ↓HG7b hk, ↓HG8b hk, ↓HR1b hk, ↓HR3b hk, ↓HR5b hk, ↓HP0b hk, ↓HP2b hk, ↓HP4b hk, ↓HP6b hk, ↓HP7b hk, ↓HP8b hk, ↓HAb hk, ↓HSb hk, ↓HNb hk, ↓TAb hk, ↓TSb hk, ↓TNb hk, ha, h6]
theorem c_learnL (hN : 300 ≤ N) (hk : isH k) {M0 : PM} : ∀ m i (M : PM) (r : AR) (L : List Nat), i ≤ 10 → 10 - i < m → Fk0 k M0 M → PT M k n tx → M.1 k 7 = nI r.2.1 → r.2.1 ≤ n → SR M k L → L.length ≤ r.2.1 → (r.1 = true → HC L r.2.2.2 ∧ M.1 k 0 = nI r.2.2.1) → CA z k M0 n (zfix (fun _ _ _ _ => none) (bX5_learn_39 N) m (enc z M) (z + k) (bI r.1) (nI i)) (pRest tx n (10 - i) r) := by
  intro m
  induction m with
  | zero => intro i M r L _ h; omega
  | succ m ih =>
    intro i M r L hi hm hF hT ha han hS hL hr
    obtain ⟨M8, e80, p2, p3, p4⟩ := c_l80 (z := z) N (ok := r.1) (by omega) hk hT ha han hS
    have fin : CA z k M0 n (bX5_learn_80 N (enc z M) (z + k) (bI r.1)) r := ⟨M8, e80, Fk0_trans hF ⟨p2, fun c j q1 _ => p3 c j q1⟩, fun q => ⟨L.map stl, p4 q, ⟨HC_stl (hr q.1).1, NF_stl L⟩, by rw [p3 k 0 (by omega)]; exact (hr q.1).2⟩⟩
    rw [zfix_succ, bX5_learn_39]
    simp only [lit]
    by_cases h10 : i = 10
    · subst h10
      simp (disch := omega) only [↓znm_, ↓reduceIte, rn0, rn1, rbI, nle_t, nle_f, nlt_t, nlt_f, neq_t, neq_f, x_add, x_mul, x_sub, x_div, ↓x_rem, x_remN, setI_eq, setI_ne, setI_nk, setI_2, bn0, bn1, reduceCtorEq]
      exact fin
    · obtain ⟨q, hq⟩ : ∃ q, 10 - i = q + 1 := ⟨10 - i - 1, by omega⟩
      have hq2 : q = 10 - (i + 1) := by omega
      rw [hq, pRest]
      cases hok : r.1 with
      | false =>
        rw [if_neg (by intro w; cases w.1)]
        simp (disch := omega) only [↓znm_, ↓reduceIte, rn0, rn1, rbI, nle_t, nle_f, nlt_t, nlt_f, neq_t, neq_f, x_add, x_mul, x_sub, x_div, ↓x_rem, x_remN, setI_eq, setI_ne, setI_nk, setI_2, bn0, bn1, reduceCtorEq]
        rw [hok] at fin
        exact fin
      | true =>
        have e1 := c_sign (z := z) N hk hT ha han
        have hsg := sg_eq hT (a := r.2.1) (c := 59) (by omega)
        by_cases hcu : cu tx n r.2.1 = 59
        · have hlt := cu_lt hcu (by omega)
          rw [if_pos ⟨rfl, hcu⟩]
          have hT1 := PT_set hk hT (j := 7) (by omega) (nI (r.2.1 + 1))
          have hS1 := SR_set hS (j := 7) (by omega) (nI (r.2.1 + 1))
          have hr' := hr hok
          obtain ⟨M2, L2, f1, f2, f3, f4, f5, f6⟩ := c_cl (z := z) (a := r.2.1 + 1) N hN hk ⟨hT1, setI_eq, by omega, hS1, by omega⟩ hr'.1 (h := r.2.2.1) (by rw [setI_ne (by omega)]; exact hr'.2)
          simp (disch := omega) only [↓znm_, ↓reduceIte, rn0, rn1, rbI, nle_t, nle_f, nlt_t, nlt_f, neq_t, neq_f, x_add, x_mul, x_sub, x_div, ↓x_rem, x_remN, setI_eq, setI_ne, setI_nk, setI_2, bn0, bn1, reduceCtorEq, ↓HOb hk, ↓HG0b hk, ↓HG2b hk, ↓HG4b hk, ↓HG6b hk, ↓HG7b hk, ↓HG8b hk, ↓HR1b hk, ↓HR3b hk, ↓HR5b hk, ↓HP0b hk, ↓HP2b hk, ↓HP4b hk, ↓HP6b hk, ↓HP7b hk, ↓HP8b hk, ↓HAb hk, ↓HSb hk, ↓HNb hk, ↓TAb hk, ↓TSb hk, ↓TNb hk, ↓zc e1, ha, hsg, hcu, ↓zc f1]
          have hF1 : Fk0 k M (setI M k 7 (nI (r.2.1 + 1))) := Fk0_set (by omega) _
          have := ih (i + 1) M2 ((pCl tx n (r.2.1 + 1)).1, (pCl tx n (r.2.1 + 1)).2.1, apH (pCl tx n (r.2.1 + 1)).2.2 r.2.2.1, apS (pCl tx n (r.2.1 + 1)).2.2 r.2.2.2) L2 (by omega) (by omega) (Fk0_trans hF (Fk0_trans hF1 f2)) (PT_F0 hk f2 hT1) f3 (pCl_pg tx n _ (by omega)) f4 f5 f6
          rw [← hq2] at this
          exact this
        · rw [if_neg (fun w => hcu w.2)]
          simp (disch := omega) only [↓znm_, ↓reduceIte, rn0, rn1, rbI, nle_t, nle_f, nlt_t, nlt_f, neq_t, neq_f, x_add, x_mul, x_sub, x_div, ↓x_rem, x_remN, setI_eq, setI_ne, setI_nk, setI_2, bn0, bn1, reduceCtorEq, ↓HOb hk, ↓HG0b hk, ↓HG2b hk, ↓HG4b hk, ↓HG6b hk, ↓HG7b hk, ↓HG8b hk, ↓HR1b hk, ↓HR3b hk, ↓HR5b hk, ↓HP0b hk, ↓HP2b hk, ↓HP4b hk, ↓HP6b hk, ↓HP7b hk, ↓HP8b hk, ↓HAb hk, ↓HSb hk, ↓HNb hk, ↓TAb hk, ↓TSb hk, ↓TNb hk, ↓zc e1, ha, hsg, hcu]
          rw [hok] at fin
          exact fin
theorem c_learn (hN : 300 ≤ N) (hk : isH k) {M : PM} (hn : n ≤ 100) (ht : ∀ i, i < n → M.1 84 i = nI (tx i) ∧ tx i < 128) : ∃ M', fX5_learn N (enc z M) (z + k) (z + 84) (nI n) = some (if (pAll tx n).1 = true ∧ (pAll tx n).2.1 = n then -nI 1 else nI (pAll tx n).2.1, enc z M') ∧ (M'.2.1 = M.2.1 ∧ (∀ c, c ≠ k → M'.2.2 c = M.2.2 c) ∧ ∀ c j, c ≠ k → c ≠ k + 1 → M'.1 c j = M.1 c j) ∧ ((pAll tx n).1 = true ∧ (pAll tx n).2.1 = n → HK M' k (pAll tx n).2.2.1 (pAll tx n).2.2.2) := by
  have h84 := isH_84 hk
  rw [fX5_learn]
  simp only [lit]
  have e0 := HPB (z := z) (M := M) (b := 84) hk
  generalize hM1 : setI (setI (setI (setI (setB M k 84) k 6 (nI n)) k 7 (nI 0)) k 2 (nI 0)) k 0 (nI 6) = M1
  have hT : PT M1 k n tx := by
    subst hM1
    refine ⟨by rw [setI_ne (by omega), setI_ne (by omega), setI_ne (by omega)]; exact setI_eq, hn, ?_, fun i hi => ?_⟩
    · show (if k = k then 84 else _) = 84
      rw [if_pos rfl]
    · rw [setI_nk h84.1, setI_nk h84.1, setI_nk h84.1, setI_nk h84.1]; exact ht i hi
  have hS : SR M1 k [] := by
    subst hM1
    exact ⟨by decide, (by rw [setI_ne (by omega)]; exact setI_eq), fun i hi => absurd hi (Nat.not_lt_zero i), fun x hx => (List.not_mem_nil hx).elim⟩
  have h7 : M1.1 k 7 = nI 0 := by subst hM1; rw [setI_ne (by omega), setI_ne (by omega)]; exact setI_eq
  have h0 : M1.1 k 0 = nI 6 := by subst hM1; exact setI_eq
  obtain ⟨M2, L2, f1, f2, f3, f4, f5, f6⟩ := c_cl (z := z) (a := 0) N hN hk ⟨hT, h7, by omega, hS, Nat.le_refl _⟩ HC_nil h0
  have := c_learnL (z := z) N hN hk (M0 := M1) N 1 M2 ((pCl tx n 0).1, (pCl tx n 0).2.1, apH (pCl tx n 0).2.2 6, apS (pCl tx n 0).2.2 (fun _ => nI 1)) L2 (by omega) (by omega) f2 (PT_F0 hk f2 hT) f3 (pCl_pg tx n 0 (by omega)) f4 f5 f6
  obtain ⟨M3, g1, g2, g3⟩ := this
  refine ⟨M3, ?_, ?_, g3⟩
  · have hif : (if nI 100 < nI n then nI 100 else nI n) = nI n := by simp (disch := omega) only [↓znm_, ↓reduceIte, rn0, rn1, rbI, nle_t, nle_f, nlt_t, nlt_f, neq_t, neq_f, x_add, x_mul, x_sub, x_div, ↓x_rem, x_remN, setI_eq, setI_ne, setI_nk, setI_2, bn0, bn1, reduceCtorEq]
    simp (disch := omega) only [↓znm_, ↓reduceIte, rn0, rn1, rbI, nle_t, nle_f, nlt_t, nlt_f, neq_t, neq_f, x_add, x_mul, x_sub, x_div, ↓x_rem, x_remN, setI_eq, setI_ne, setI_nk, setI_2, bn0, bn1, reduceCtorEq, ↓HOb hk, ↓HG0b hk, ↓HG2b hk, ↓HG4b hk, ↓HG6b hk, ↓HG7b hk, ↓HG8b hk, ↓HR1b hk, ↓HR3b hk, ↓HR5b hk, ↓HP0b hk, ↓HP2b hk, ↓HP4b hk, ↓HP6b hk, ↓HP7b hk, ↓HP8b hk, ↓HAb hk, ↓HSb hk, ↓HNb hk, ↓TAb hk, ↓TSb hk, ↓TNb hk, ↓bnd e0, ↓N84b, hif, hM1, ↓zc f1]
    exact g1
  · refine ⟨?_, ?_, ?_⟩
    · rw [g2.1, ← hM1]; rfl
    · intro c hc
      rw [g2.1, ← hM1]
      show (if c = k then 84 else M.2.2 c) = _
      rw [if_neg hc]
    · intro c j h1 h2
      rw [g2.2 c j h2 (fun q => h1 q.1), ← hM1, setI_nk h1, setI_nk h1, setI_nk h1, setI_nk h1]; rfl
end
