def FW (k : Nat) (M M' : PM) : Prop := M'.2 = M.2 ∧ ∀ c j, c ≠ 88 → c ≠ k + 2 → ¬ (c = k ∧ j = 4) → M'.1 c j = M.1 c j
theorem FW_refl {k : Nat} {M : PM} : FW k M M := ⟨rfl, fun _ _ _ _ _ => rfl⟩
theorem FW_trans {k : Nat} {M M' M'' : PM} (h : FW k M M') (h' : FW k M' M'') : FW k M M'' := ⟨h'.1.trans h.1, fun c j a b d => (h'.2 c j a b d).trans (h.2 c j a b d)⟩
theorem FW_4 {k : Nat} {M : PM} (v : Int32) : FW k M (setI M k 4 v) := ⟨rfl, fun c j _ _ h => by rw [setI_at, if_neg (fun q => h ⟨q.1, q.2⟩)]⟩
theorem FW_s {k : Nat} {M : PM} {i : Nat} (v : Int32) : FW k M (setI M (k + 2) i v) := ⟨rfl, fun c j _ h _ => setI_nk h⟩
theorem FW_88 {k : Nat} {M : PM} {i : Nat} (v : Int32) : FW k M (setI M 88 i v) := ⟨rfl, fun c j h _ _ => setI_nk h⟩
theorem isH_88 {k : Nat} (hk : isH k) : 88 ≠ k ∧ 88 ≠ k + 1 ∧ 88 ≠ k + 2 := by
  rcases hk with rfl | ⟨t, ht, rfl⟩ <;> omega
theorem SR_W {k : Nat} {M M' : PM} {L : List Nat} (hk : isH k) (hF : FW k M M') (h : SR M k L) : SR M' k L := by
  have h8 := isH_88 hk
  exact ⟨h.1, by rw [hF.2 k 2 (Ne.symm h8.1) (by omega) (by omega)]; exact h.2.1, fun i hi => by rw [hF.2 (k + 1) i (Ne.symm h8.2.1) (by omega) (by omega)]; exact h.2.2.1 i hi, h.2.2.2⟩
def WR (M : PM) (k : Nat) (t : XS) : Prop := M.1 k 4 = nI t.1 ∧ t.1 ≤ 11 ∧ (∀ j, j < t.1 → M.1 (k + 2) j = nI (t.2.1 j) ∧ t.2.1 j < 256) ∧ ∀ f, f < 8 → M.1 88 f = t.2.2 f
section
variable {z : Nat} {k : Nat} (N : Nat)
def flI (M : PM) (c i : Nat) (v : Int32) : PM := (fun a b => if a = c ∧ b < i then v else M.1 a b, M.2)
theorem flI_0 {M : PM} {c : Nat} {v : Int32} : flI M c 0 v = M := by
  refine Prod.ext (funext fun a => funext fun b => ?_) rfl
  show (if a = c ∧ b < 0 then v else M.1 a b) = _
  rw [if_neg (by omega)]
theorem flI_s {M : PM} {c i : Nat} {v : Int32} : setI (flI M c i v) c i v = flI M c (i + 1) v := by
  refine Prod.ext (funext fun a => funext fun b => ?_) rfl
  show (if a = c ∧ b = i then v else if a = c ∧ b < i then v else M.1 a b) = if a = c ∧ b < i + 1 then v else M.1 a b
  by_cases h1 : a = c ∧ b = i
  · rw [if_pos h1, if_pos (by omega)]
  · rw [if_neg h1]
    by_cases h2 : a = c ∧ b < i
    · rw [if_pos h2, if_pos (by omega)]
    · rw [if_neg h2, if_neg (by omega)]
theorem c_fillL {M : PM} : ∀ m i, i ≤ 8 → 8 - i < m → zfix (fun _ _ _ _ _ => none) (bJ7_fill_53178_5 N) m (enc z (flI M 88 i (nI 1))) (z + 88) (nI 1) (nI i) (nI 8) = some ((), enc z (flI M 88 8 (nI 1))) := by
  intro m
  induction m with
  | zero => intro i _ h; omega
  | succ m ih =>
    intro i hi hm
    rw [zfix_succ, bJ7_fill_53178_5]
    simp only [lit]
    by_cases h8 : i = 8
    · subst h8
      simp (disch := omega) only [↓znm_, ↓reduceIte, rn0, rn1, rbI, nle_t, nle_f, nlt_t, nlt_f, neq_t, neq_f, x_add, x_mul, x_sub, x_div, ↓x_rem, x_remN, setI_eq, setI_ne, setI_nk, setI_2, bn0, bn1, reduceCtorEq]
    · simp (disch := omega) only [↓znm_, ↓reduceIte, rn0, rn1, rbI, nle_t, nle_f, nlt_t, nlt_f, neq_t, neq_f, x_add, x_mul, x_sub, x_div, ↓x_rem, x_remN, setI_eq, setI_ne, setI_nk, setI_2, bn0, bn1, reduceCtorEq, ↓S88b, flI_s]
      exact ih (i + 1) (by omega) (by omega)
theorem c_fill (hN : 20 ≤ N) {M : PM} : fJ7_fill_53178 N (enc z M) (z + 88) (nI 1) = some ((), enc z (flI M 88 8 (nI 1))) := by
  rw [fJ7_fill_53178]
  simp only [lit]
  rw [N88b]
  have := c_fillL (z := z) N (M := M) N 0 (by omega) (by omega)
  rw [flI_0] at this
  exact this
theorem c_push (hk : isH k) {M : PM} {t : XS} {x : Nat} (h : WR M k t) (hx : x < 256) : ∃ M', fX5_push N (enc z M) (z + k) (nI x) = some ((), enc z M') ∧ FW k M M' ∧ WR M' k (xpush t x) := by
  obtain ⟨h4, ht, hs, h8⟩ := h
  have h88 := isH_88 hk
  rw [fX5_push]
  simp only [lit]
  by_cases q : t.1 < 11
  · rw [xpush_ok q]
    refine ⟨setI (setI M (k + 2) t.1 (nI x)) k 4 (nI (t.1 + 1)), ?_, FW_trans (FW_s _) (FW_4 _), setI_eq, by show t.1 + 1 ≤ 11; omega, ?_, ?_⟩
    · simp (disch := omega) only [↓znm_, ↓reduceIte, rn0, rn1, rbI, nle_t, nle_f, nlt_t, nlt_f, neq_t, neq_f, x_add, x_mul, x_sub, x_div, ↓x_rem, x_remN, setI_eq, setI_ne, setI_nk, setI_2, bn0, bn1, reduceCtorEq, ↓HOb hk, ↓HG0b hk, ↓HG2b hk, ↓HG4b hk, ↓HG6b hk, ↓HG7b hk, ↓HG8b hk, ↓HR1b hk, ↓HR3b hk, ↓HR5b hk, ↓HP0b hk, ↓HP2b hk, ↓HP4b hk, ↓HP6b hk, ↓HP7b hk, ↓HP8b hk, ↓HAb hk, ↓HSb hk, ↓HNb hk, ↓TAb hk, ↓TSb hk, ↓TNb hk, h4]
    · intro j hj
      have hj : j < t.1 + 1 := hj
      rw [setI_nk (by omega)]
      by_cases e : j = t.1
      · subst e
        rw [setI_eq]
        show _ = nI (updN _ _ _ _) ∧ updN _ _ _ _ < _
        simp only [updN, if_true]
        exact ⟨trivial, hx⟩
      · rw [setI_ne e]
        show _ = nI (updN _ _ _ _) ∧ updN _ _ _ _ < _
        simp only [updN, if_neg e]
        exact hs j (by omega)
    · intro f hf
      rw [setI_nk h88.1, setI_nk h88.2.2]
      exact h8 f hf
  · have e : xpush t x = t := by unfold xpush; rw [if_neg q]
    rw [e]
    refine ⟨M, ?_, FW_refl, h4, ht, hs, h8⟩
    simp (disch := omega) only [↓znm_, ↓reduceIte, rn0, rn1, rbI, nle_t, nle_f, nlt_t, nlt_f, neq_t, neq_f, x_add, x_mul, x_sub, x_div, ↓x_rem, x_remN, setI_eq, setI_ne, setI_nk, setI_2, bn0, bn1, reduceCtorEq, ↓HOb hk, ↓HG0b hk, ↓HG2b hk, ↓HG4b hk, ↓HG6b hk, ↓HG7b hk, ↓HG8b hk, ↓HR1b hk, ↓HR3b hk, ↓HR5b hk, ↓HP0b hk, ↓HP2b hk, ↓HP4b hk, ↓HP6b hk, ↓HP7b hk, ↓HP8b hk, ↓HAb hk, ↓HSb hk, ↓HNb hk, ↓TAb hk, ↓TSb hk, ↓TNb hk, h4]
theorem c_pop (hk : isH k) {M : PM} {t : XS} (h : WR M k t) : ∃ M', fX5_pop N (enc z M) (z + k) = some (nI (xtop t), enc z M') ∧ FW k M M' ∧ WR M' k (xpop t) ∧ xtop t < 256 := by
  obtain ⟨h4, ht, hs, h8⟩ := h
  have h88 := isH_88 hk
  rw [fX5_pop]
  simp only [lit]
  by_cases q : t.1 = 0
  · have e1 : xtop t = 0 := by unfold xtop; rw [if_pos q]
    have e2 : (xpop t).1 = 0 := by show t.1 - 1 = 0; omega
    rw [e1]
    refine ⟨M, ?_, FW_refl, ⟨by rw [e2, h4, q], by omega, fun j hj => by omega, h8⟩, by omega⟩
    simp (disch := omega) only [↓znm_, ↓reduceIte, rn0, rn1, rbI, nle_t, nle_f, nlt_t, nlt_f, neq_t, neq_f, x_add, x_mul, x_sub, x_div, ↓x_rem, x_remN, setI_eq, setI_ne, setI_nk, setI_2, bn0, bn1, reduceCtorEq, ↓HOb hk, ↓HG0b hk, ↓HG2b hk, ↓HG4b hk, ↓HG6b hk, ↓HG7b hk, ↓HG8b hk, ↓HR1b hk, ↓HR3b hk, ↓HR5b hk, ↓HP0b hk, ↓HP2b hk, ↓HP4b hk, ↓HP6b hk, ↓HP7b hk, ↓HP8b hk, ↓HAb hk, ↓HSb hk, ↓HNb hk, ↓TAb hk, ↓TSb hk, ↓TNb hk, h4]
  · have e1 : xtop t = t.2.1 (t.1 - 1) := by unfold xtop; rw [if_neg q]
    have hv := hs (t.1 - 1) (by omega)
    rw [e1]
    refine ⟨setI M k 4 (nI (t.1 - 1)), ?_, FW_4 _, ⟨setI_eq, by show t.1 - 1 ≤ 11; omega, fun j hj => ?_, fun f hf => ?_⟩, hv.2⟩
    · simp (disch := omega) only [↓znm_, ↓reduceIte, rn0, rn1, rbI, nle_t, nle_f, nlt_t, nlt_f, neq_t, neq_f, x_add, x_mul, x_sub, x_div, ↓x_rem, x_remN, setI_eq, setI_ne, setI_nk, setI_2, bn0, bn1, reduceCtorEq, ↓HOb hk, ↓HG0b hk, ↓HG2b hk, ↓HG4b hk, ↓HG6b hk, ↓HG7b hk, ↓HG8b hk, ↓HR1b hk, ↓HR3b hk, ↓HR5b hk, ↓HP0b hk, ↓HP2b hk, ↓HP4b hk, ↓HP6b hk, ↓HP7b hk, ↓HP8b hk, ↓HAb hk, ↓HSb hk, ↓HNb hk, ↓TAb hk, ↓TSb hk, ↓TNb hk, h4, hv.1]
    · have hj : j < t.1 - 1 := hj
      rw [setI_nk (by omega)]
      exact hs j (by omega)
    · rw [setI_nk h88.1]
      exact h8 f hf
theorem c_addWL (hk : isH k) {x : Nat} (hx : x < 256) (w : Int32) {M0 : PM} {sm : Nat → Int32} : ∀ m i (M : PM), i ≤ 8 → 8 - i < m → FW k M0 M → M.1 k 4 = M0.1 k 4 → (∀ j, M.1 (k + 2) j = M0.1 (k + 2) j) → (∀ f, f < 8 → M.1 88 f = if f < i ∧ x.testBit f = true then sm f + w else sm f) → ∃ M', zfix (fun _ _ _ _ _ => none) (bX5_addWeight_2 N) m (enc z M) (nI x) w (z + 88) (nI i) = some ((), enc z M') ∧ FW k M0 M' ∧ M'.1 k 4 = M0.1 k 4 ∧ (∀ j, M'.1 (k + 2) j = M0.1 (k + 2) j) ∧ ∀ f, f < 8 → M'.1 88 f = if f < 8 ∧ x.testBit f = true then sm f + w else sm f := by
  have h88 := isH_88 hk
  intro m
  induction m with
  | zero => intro i M _ h; omega
  | succ m ih =>
    intro i M hi hm hF h1 h2 h3
    rw [zfix_succ, bX5_addWeight_2]
    simp only [lit]
    by_cases h8 : i = 8
    · subst h8
      refine ⟨M, ?_, hF, h1, h2, h3⟩
      simp (disch := omega) only [↓znm_, ↓reduceIte, rn0, rn1, rbI, nle_t, nle_f, nlt_t, nlt_f, neq_t, neq_f, x_add, x_mul, x_sub, x_div, ↓x_rem, x_remN, setI_eq, setI_ne, setI_nk, setI_2, bn0, bn1, reduceCtorEq, ↓N88b]
    · cases hb : x.testBit i with
      | false =>
        simp (disch := omega) only [↓znm_, ↓reduceIte, rn0, rn1, rbI, nle_t, nle_f, nlt_t, nlt_f, neq_t, neq_f, x_add, x_mul, x_sub, x_div, ↓x_rem, x_remN, setI_eq, setI_ne, setI_nk, setI_2, bn0, bn1, reduceCtorEq, ↓N88b, x_bit1, hb]
        refine ih (i + 1) M (by omega) (by omega) hF h1 h2 (fun f hf => ?_)
        rw [h3 f hf]
        by_cases e : f = i
        · subst e; simp [hb]
        · have : f < i + 1 ↔ f < i := by omega
          simp only [this]
      | true =>
        have hsm := h3 i (by omega)
        rw [if_neg (by omega)] at hsm
        simp (disch := omega) only [↓znm_, ↓reduceIte, rn0, rn1, rbI, nle_t, nle_f, nlt_t, nlt_f, neq_t, neq_f, x_add, x_mul, x_sub, x_div, ↓x_rem, x_remN, setI_eq, setI_ne, setI_nk, setI_2, bn0, bn1, reduceCtorEq, ↓N88b, ↓A88b, ↓S88b, x_bit1, hb, hsm]
        refine ih (i + 1) _ (by omega) (by omega) (FW_trans hF (FW_88 _)) (by rw [setI_nk (Ne.symm h88.1)]; exact h1) (fun j => by rw [setI_nk (Ne.symm h88.2.2)]; exact h2 j) (fun f hf => ?_)
        by_cases e : f = i
        · subst e; rw [setI_eq]; simp [hb]
        · rw [setI_ne e, h3 f hf]
          have : f < i + 1 ↔ f < i := by omega
          simp only [this]
theorem c_addW (hN : 20 ≤ N) (hk : isH k) {M : PM} {t : XS} {x : Nat} (h : WR M k t) (hx : x < 256) (w : Int32) : ∃ M', fX5_addWeight N (enc z M) (nI x) w (z + 88) = some ((), enc z M') ∧ FW k M M' ∧ WR M' k (xw t x w) := by
  obtain ⟨h4, ht, hs, h8⟩ := h
  obtain ⟨M', f1, f2, f3, f4, f5⟩ := c_addWL (z := z) N hk hx w (M0 := M) (sm := t.2.2) N 0 M (by omega) (by omega) FW_refl rfl (fun _ => rfl) (fun f hf => by rw [if_neg (by omega)]; exact h8 f hf)
  exact ⟨M', f1, f2, by rw [f3]; exact h4, ht, fun j hj => by rw [f4]; exact hs j hj, f5⟩
theorem c_val {h : AH} {e : EV} {l : Nat} (hl : l < 10) (hd : e.2.2.2 < 2147483648) : fX5_valueOf N h (nI l) (nI e.1) (nI e.2.1) (nI e.2.2.1) (nI e.2.2.2) = some (xval e l, h) := by
  rw [fX5_valueOf]
  simp only [lit]
  rcases (show l = 0 ∨ l = 1 ∨ l = 2 ∨ l = 3 ∨ l = 4 ∨ l = 5 ∨ l = 6 ∨ l = 7 ∨ l = 8 ∨ l = 9 by omega) with rfl | rfl | rfl | rfl | rfl | rfl | rfl | rfl | rfl | rfl <;> simp (disch := omega) only [↓znm_, ↓reduceIte, rn0, rn1, rbI, nle_t, nle_f, nlt_t, nlt_f, neq_t, neq_f, x_add, x_mul, x_sub, x_div, ↓x_rem, x_remN, setI_eq, setI_ne, setI_nk, setI_2, bn0, bn1, reduceCtorEq] <;> rfl
theorem c_weighL (hN : 20 ≤ N) (hk : isH k) {e : EV} (hd : e.2.2.2 < 2147483648) {L : List Nat} (hNF : NF L) {M0 : PM} : ∀ m i (M : PM) (t : XS), i ≤ L.length → L.length - i < m → SR M k L → FW k M0 M → WR M k t → ∃ M', zfix (fun _ _ _ _ _ _ _ _ => none) (bX5_weigh_14 N) m (enc z M) (z + k) (nI e.1) (nI e.2.1) (nI e.2.2.1) (nI e.2.2.2) (z + 88) (nI i) = some ((), enc z M') ∧ FW k M0 M' ∧ WR M' k ((L.drop i).foldl (xstep e) t) := by
  intro m
  induction m with
  | zero => intro i M t _ h; omega
  | succ m ih =>
    intro i M t hi hm hS hF hW
    have hl := hS.1
    have h2 := hS.2.1
    rw [zfix_succ, bX5_weigh_14]
    simp only [lit]
    by_cases hiL : i = L.length
    · subst hiL
      refine ⟨M, ?_, hF, by rw [List.drop_length]; exact hW⟩
      simp (disch := omega) only [↓znm_, ↓reduceIte, rn0, rn1, rbI, nle_t, nle_f, nlt_t, nlt_f, neq_t, neq_f, x_add, x_mul, x_sub, x_div, ↓x_rem, x_remN, setI_eq, setI_ne, setI_nk, setI_2, bn0, bn1, reduceCtorEq, ↓HOb hk, ↓HG0b hk, ↓HG2b hk, ↓HG4b hk, ↓HG6b hk, ↓HG7b hk, ↓HG8b hk, ↓HR1b hk, ↓HR3b hk, ↓HR5b hk, ↓HP0b hk, ↓HP2b hk, ↓HP4b hk, ↓HP6b hk, ↓HP7b hk, ↓HP8b hk, ↓HAb hk, ↓HSb hk, ↓HNb hk, ↓TAb hk, ↓TSb hk, ↓TNb hk, h2]
    · have hd' : L.drop i = L.getD i 0 :: L.drop (i + 1) := by
        rw [List.drop_eq_getElem_cons (by omega : i < L.length)]
        simp [List.getD_eq_getElem?_getD, (by omega : i < L.length)]
      have hv := hS.2.2.1 i (by omega)
      have hc : L.getD i 0 < 8192 := hS.2.2.2 _ (by
        rw [List.getD_eq_getElem?_getD, List.getElem?_eq_getElem (by omega : i < L.length)]
        exact List.getElem_mem _)
      rw [hd', List.foldl_cons]
      have hc3 : ¬ L.getD i 0 / 256 / 3 = 3 := hNF _ (by
        rw [List.getD_eq_getElem?_getD, List.getElem?_eq_getElem (by omega : i < L.length)]
        exact List.getElem_mem _)
      generalize hcc : L.getD i 0 = c at hv hc hc3
      have nxt : ∀ (M2 : PM), FW k M M2 → WR M2 k (xstep e t c) → ∃ M', zfix (fun _ _ _ _ _ _ _ _ => none) (bX5_weigh_14 N) m (enc z M2) (z + k) (nI e.1) (nI e.2.1) (nI e.2.2.1) (nI e.2.2.2) (z + 88) (nI (i + 1)) = some ((), enc z M') ∧ FW k M0 M' ∧ WR M' k ((L.drop (i + 1)).foldl (xstep e) (xstep e t c)) := fun M2 g1 g2 => ih (i + 1) M2 _ (by omega) (by omega) (SR_W hk g1 hS) (FW_trans hF g1) g2
      by_cases k18 : c / 256 < 18
      · have ev := c_val N (h := enc z M) (e := e) (l := c / 256 / 3) (by omega) hd
        have ec := c_cmp N (h := enc z M) (c := c / 256 % 3) (x := c % 256) (by omega) (xval e (c / 256 / 3))
        have ex : xstep e t c = xpush t (if tvI (c / 256 % 3) (c % 256) (xval e (c / 256 / 3)) = true then 255 else 0) := by unfold xstep; rw [if_pos k18, if_neg hc3]
        cases hb : tvI (c / 256 % 3) (c % 256) (xval e (c / 256 / 3)) with
        | true =>
          rw [hb] at ec
          rw [hb, if_pos rfl] at ex
          obtain ⟨M2, g1, g2, g3⟩ := c_push (z := z) N hk hW (x := 255) (by omega)
          simp (disch := omega) only [↓znm_, ↓reduceIte, rn0, rn1, rbI, nle_t, nle_f, nlt_t, nlt_f, neq_t, neq_f, x_add, x_mul, x_sub, x_div, ↓x_rem, x_remN, setI_eq, setI_ne, setI_nk, setI_2, bn0, bn1, reduceCtorEq, ↓HOb hk, ↓HG0b hk, ↓HG2b hk, ↓HG4b hk, ↓HG6b hk, ↓HG7b hk, ↓HG8b hk, ↓HR1b hk, ↓HR3b hk, ↓HR5b hk, ↓HP0b hk, ↓HP2b hk, ↓HP4b hk, ↓HP6b hk, ↓HP7b hk, ↓HP8b hk, ↓HAb hk, ↓HSb hk, ↓HNb hk, ↓TAb hk, ↓TSb hk, ↓TNb hk, h2, hv, ↓zc ev, ↓zc ec, ↓zc g1]
          exact nxt M2 g2 (by rw [ex]; exact g3)
        | false =>
          rw [hb] at ec
          rw [hb, if_neg (by decide)] at ex
          obtain ⟨M2, g1, g2, g3⟩ := c_push (z := z) N hk hW (x := 0) (by omega)
          simp (disch := omega) only [↓znm_, ↓reduceIte, rn0, rn1, rbI, nle_t, nle_f, nlt_t, nlt_f, neq_t, neq_f, x_add, x_mul, x_sub, x_div, ↓x_rem, x_remN, setI_eq, setI_ne, setI_nk, setI_2, bn0, bn1, reduceCtorEq, ↓HOb hk, ↓HG0b hk, ↓HG2b hk, ↓HG4b hk, ↓HG6b hk, ↓HG7b hk, ↓HG8b hk, ↓HR1b hk, ↓HR3b hk, ↓HR5b hk, ↓HP0b hk, ↓HP2b hk, ↓HP4b hk, ↓HP6b hk, ↓HP7b hk, ↓HP8b hk, ↓HAb hk, ↓HSb hk, ↓HNb hk, ↓TAb hk, ↓TSb hk, ↓TNb hk, h2, hv, ↓zc ev, ↓zc ec, ↓zc g1]
          exact nxt M2 g2 (by rw [ex]; exact g3)
      · obtain ⟨M2, g1, g2, g3, g4⟩ := c_pop (z := z) N hk hW
        by_cases k22 : c / 256 = 22
        · have ex : xstep e t c = xw (xpop t) (xtop t) (nI (c % 256)) := by unfold xstep; rw [if_neg k18, if_pos k22]
          obtain ⟨M3, q1, q2, q3⟩ := c_addW (z := z) N hN hk g3 g4 (nI (c % 256))
          simp (disch := omega) only [↓znm_, ↓reduceIte, rn0, rn1, rbI, nle_t, nle_f, nlt_t, nlt_f, neq_t, neq_f, x_add, x_mul, x_sub, x_div, ↓x_rem, x_remN, setI_eq, setI_ne, setI_nk, setI_2, bn0, bn1, reduceCtorEq, ↓HOb hk, ↓HG0b hk, ↓HG2b hk, ↓HG4b hk, ↓HG6b hk, ↓HG7b hk, ↓HG8b hk, ↓HR1b hk, ↓HR3b hk, ↓HR5b hk, ↓HP0b hk, ↓HP2b hk, ↓HP4b hk, ↓HP6b hk, ↓HP7b hk, ↓HP8b hk, ↓HAb hk, ↓HSb hk, ↓HNb hk, ↓TAb hk, ↓TSb hk, ↓TNb hk, h2, hv, ↓zc g1, ↓zc q1]
          exact nxt M3 (FW_trans g2 q2) (by rw [ex]; exact q3)
        · by_cases k23 : c / 256 = 23
          · have ex : xstep e t c = xw (xpop t) (xtop t) (-nI (c % 256)) := by unfold xstep; rw [if_neg k18, if_neg k22, if_pos k23]
            obtain ⟨M3, q1, q2, q3⟩ := c_addW (z := z) N hN hk g3 g4 (-nI (c % 256))
            simp (disch := omega) only [↓znm_, ↓reduceIte, rn0, rn1, rbI, nle_t, nle_f, nlt_t, nlt_f, neq_t, neq_f, x_add, x_mul, x_sub, x_div, ↓x_rem, x_remN, setI_eq, setI_ne, setI_nk, setI_2, bn0, bn1, reduceCtorEq, ↓HOb hk, ↓HG0b hk, ↓HG2b hk, ↓HG4b hk, ↓HG6b hk, ↓HG7b hk, ↓HG8b hk, ↓HR1b hk, ↓HR3b hk, ↓HR5b hk, ↓HP0b hk, ↓HP2b hk, ↓HP4b hk, ↓HP6b hk, ↓HP7b hk, ↓HP8b hk, ↓HAb hk, ↓HSb hk, ↓HNb hk, ↓TAb hk, ↓TSb hk, ↓TNb hk, h2, hv, ↓zc g1, ↓zc q1]
            exact nxt M3 (FW_trans g2 q2) (by rw [ex]; exact q3)
          · have hj : ∃ M3, fX5_join N (enc z M) (z + k) (nI (c / 256)) (nI (c % 256)) = some ((), enc z M3) ∧ FW k M M3 ∧ WR M3 k (xstep e t c) := by
              rw [fX5_join]
              simp only [lit]
              by_cases k19 : c / 256 = 19
              · have ex : xstep e t c = xpush (xpop (xpop t)) (xtop t &&& xtop (xpop t)) := by unfold xstep; rw [if_neg k18, if_neg k22, if_neg k23, if_pos k19]
                obtain ⟨M3, q1, q2, q3, q4⟩ := c_pop (z := z) N hk g3
                obtain ⟨M4, r1, r2, r3⟩ := c_push (z := z) N hk q3 (x := xtop t &&& xtop (xpop t)) (Nat.lt_of_le_of_lt Nat.and_le_left g4)
                refine ⟨M4, ?_, FW_trans g2 (FW_trans q2 r2), by rw [ex]; exact r3⟩
                simp (disch := omega) only [↓znm_, ↓reduceIte, rn0, rn1, rbI, nle_t, nle_f, nlt_t, nlt_f, neq_t, neq_f, x_add, x_mul, x_sub, x_div, ↓x_rem, x_remN, setI_eq, setI_ne, setI_nk, setI_2, bn0, bn1, reduceCtorEq, ↓HOb hk, ↓HG0b hk, ↓HG2b hk, ↓HG4b hk, ↓HG6b hk, ↓HG7b hk, ↓HG8b hk, ↓HR1b hk, ↓HR3b hk, ↓HR5b hk, ↓HP0b hk, ↓HP2b hk, ↓HP4b hk, ↓HP6b hk, ↓HP7b hk, ↓HP8b hk, ↓HAb hk, ↓HSb hk, ↓HNb hk, ↓TAb hk, ↓TSb hk, ↓TNb hk, ↓zc g1, ↓zc q1, x_and, ↓zc r1]
              · by_cases k20 : c / 256 = 20
                · have ex : xstep e t c = xpush (xpop (xpop t)) (xtop t ||| xtop (xpop t)) := by unfold xstep; rw [if_neg k18, if_neg k22, if_neg k23, if_neg k19, if_pos k20]
                  obtain ⟨M3, q1, q2, q3, q4⟩ := c_pop (z := z) N hk g3
                  obtain ⟨M4, r1, r2, r3⟩ := c_push (z := z) N hk q3 (x := xtop t ||| xtop (xpop t)) (or_lt8 g4 q4)
                  refine ⟨M4, ?_, FW_trans g2 (FW_trans q2 r2), by rw [ex]; exact r3⟩
                  simp (disch := omega) only [↓znm_, ↓reduceIte, rn0, rn1, rbI, nle_t, nle_f, nlt_t, nlt_f, neq_t, neq_f, x_add, x_mul, x_sub, x_div, ↓x_rem, x_remN, setI_eq, setI_ne, setI_nk, setI_2, bn0, bn1, reduceCtorEq, ↓HOb hk, ↓HG0b hk, ↓HG2b hk, ↓HG4b hk, ↓HG6b hk, ↓HG7b hk, ↓HG8b hk, ↓HR1b hk, ↓HR3b hk, ↓HR5b hk, ↓HP0b hk, ↓HP2b hk, ↓HP4b hk, ↓HP6b hk, ↓HP7b hk, ↓HP8b hk, ↓HAb hk, ↓HSb hk, ↓HNb hk, ↓TAb hk, ↓TSb hk, ↓TNb hk, ↓zc g1, ↓zc q1, x_or, ↓zc r1]
                · by_cases k21 : c / 256 = 21
                  · have ex : xstep e t c = xpush (xpop t) (dif 255 (xtop t)) := by unfold xstep; rw [if_neg k18, if_neg k22, if_neg k23, if_neg k19, if_neg k20, if_pos k21]
                    obtain ⟨M4, r1, r2, r3⟩ := c_push (z := z) N hk g3 (x := dif 255 (xtop t)) (dif_lt (by omega))
                    refine ⟨M4, ?_, FW_trans g2 r2, by rw [ex]; exact r3⟩
                    simp (disch := omega) only [↓znm_, ↓reduceIte, rn0, rn1, rbI, nle_t, nle_f, nlt_t, nlt_f, neq_t, neq_f, x_add, x_mul, x_sub, x_div, ↓x_rem, x_remN, setI_eq, setI_ne, setI_nk, setI_2, bn0, bn1, reduceCtorEq, ↓HOb hk, ↓HG0b hk, ↓HG2b hk, ↓HG4b hk, ↓HG6b hk, ↓HG7b hk, ↓HG8b hk, ↓HR1b hk, ↓HR3b hk, ↓HR5b hk, ↓HP0b hk, ↓HP2b hk, ↓HP4b hk, ↓HP6b hk, ↓HP7b hk, ↓HP8b hk, ↓HAb hk, ↓HSb hk, ↓HNb hk, ↓TAb hk, ↓TSb hk, ↓TNb hk, ↓zc g1, x_dif1, ↓zc r1]
                  · have ex : xstep e t c = xpush t (c % 256) := by unfold xstep; rw [if_neg k18, if_neg k22, if_neg k23, if_neg k19, if_neg k20, if_neg k21]
                    obtain ⟨M4, r1, r2, r3⟩ := c_push (z := z) N hk hW (x := c % 256) (by omega)
                    refine ⟨M4, ?_, r2, by rw [ex]; exact r3⟩
                    simp (disch := omega) only [↓znm_, ↓reduceIte, rn0, rn1, rbI, nle_t, nle_f, nlt_t, nlt_f, neq_t, neq_f, x_add, x_mul, x_sub, x_div, ↓x_rem, x_remN, setI_eq, setI_ne, setI_nk, setI_2, bn0, bn1, reduceCtorEq, ↓HOb hk, ↓HG0b hk, ↓HG2b hk, ↓HG4b hk, ↓HG6b hk, ↓HG7b hk, ↓HG8b hk, ↓HR1b hk, ↓HR3b hk, ↓HR5b hk, ↓HP0b hk, ↓HP2b hk, ↓HP4b hk, ↓HP6b hk, ↓HP7b hk, ↓HP8b hk, ↓HAb hk, ↓HSb hk, ↓HNb hk, ↓TAb hk, ↓TSb hk, ↓TNb hk, ↓zc r1]
            obtain ⟨M3, q1, q2, q3⟩ := hj
            simp (disch := omega) only [↓znm_, ↓reduceIte, rn0, rn1, rbI, nle_t, nle_f, nlt_t, nlt_f, neq_t, neq_f, x_add, x_mul, x_sub, x_div, ↓x_rem, x_remN, setI_eq, setI_ne, setI_nk, setI_2, bn0, bn1, reduceCtorEq, ↓HOb hk, ↓HG0b hk, ↓HG2b hk, ↓HG4b hk, ↓HG6b hk, ↓HG7b hk, ↓HG8b hk, ↓HR1b hk, ↓HR3b hk, ↓HR5b hk, ↓HP0b hk, ↓HP2b hk, ↓HP4b hk, ↓HP6b hk, ↓HP7b hk, ↓HP8b hk, ↓HAb hk, ↓HSb hk, ↓HNb hk, ↓TAb hk, ↓TSb hk, ↓TNb hk, h2, hv, ↓zc q1]
            exact nxt M3 q2 q3
theorem c_weigh (hN : 200 ≤ N) (hk : isH k) {M : PM} {h : Nat} {S : SF} (hH : HK M k h S) (e : EV) (hd : e.2.2.2 < 2147483648) : ∃ M', fX5_weigh N (enc z M) (z + k) (nI e.1) (nI e.2.1) (nI e.2.2.1) (nI e.2.2.2) (z + 88) = some ((), enc z M') ∧ FW k M M' ∧ ∀ f, f < 8 → M'.1 88 f = S (nmf e f) := by
  obtain ⟨L, hS, ⟨hC, hNF⟩, h0⟩ := hH
  have h88 := isH_88 hk
  have hF1 : FW k M (flI M 88 8 (nI 1)) := ⟨rfl, fun c j h1 _ _ => by show (if c = 88 ∧ j < 8 then nI 1 else M.1 c j) = _; rw [if_neg (fun q => h1 q.1)]⟩
  have hF2 := FW_trans hF1 (FW_4 (nI 0))
  obtain ⟨st', sm, hc1, hc2⟩ := hC e (fun _ => 0)
  have hl := hS.1
  obtain ⟨M', g1, g2, g3⟩ := c_weighL (z := z) N (by omega) hk hd hNF (M0 := M) N 0 (setI (flI M 88 8 (nI 1)) k 4 (nI 0)) (0, fun _ => 0, fun _ => nI 1) (by omega) (by omega) (SR_W hk hF2 hS) hF2 ⟨setI_eq, by show 0 ≤ 11; omega, fun j hj => absurd hj (Nat.not_lt_zero j), fun f hf => by
    rw [setI_nk h88.1]
    show (if 88 = 88 ∧ f < 8 then nI 1 else M.1 88 f) = nI 1
    rw [if_pos ⟨rfl, hf⟩]⟩
  refine ⟨M', ?_, g2, fun f hf => ?_⟩
  · rw [fX5_weigh]
    simp only [lit]
    simp (disch := omega) only [↓znm_, ↓reduceIte, rn0, rn1, rbI, nle_t, nle_f, nlt_t, nlt_f, neq_t, neq_f, x_add, x_mul, x_sub, x_div, ↓x_rem, x_remN, setI_eq, setI_ne, setI_nk, setI_2, bn0, bn1, reduceCtorEq, ↓HOb hk, ↓HG0b hk, ↓HG2b hk, ↓HG4b hk, ↓HG6b hk, ↓HG7b hk, ↓HG8b hk, ↓HR1b hk, ↓HR3b hk, ↓HR5b hk, ↓HP0b hk, ↓HP2b hk, ↓HP4b hk, ↓HP6b hk, ↓HP7b hk, ↓HP8b hk, ↓HAb hk, ↓HSb hk, ↓HNb hk, ↓TAb hk, ↓TSb hk, ↓TNb hk, ↓zc (c_fill (z := z) N (by omega))]
    exact g1
  · rw [List.drop_zero, hc1] at g3
    rw [g3.2.2.2 f hf]
    exact hc2 f hf
end
