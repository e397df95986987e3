theorem ixI9 : (nI 0 ≤ ixI 9) = False := by decide
theorem ixIn {r : Nat} (h : r < 9) : ixI r = nI r := by unfold ixI; rw [if_neg (by omega)]
theorem li_le (c : Nat) (h : ¬ li c = 9) : li c < 6 := by
  unfold li at h ⊢
  repeat' split
  all_goals simp_all
theorem ci_le (c : Nat) (h : ¬ ci c = 9) : ci c < 3 := by
  unfold ci at h ⊢
  repeat' split
  all_goals simp_all
theorem pNum_lt {M : PM} {k n : Nat} {tx : Nat → Nat} (hT : PT M k n tx) (a : Nat) : (pNum tx n a).2.2 < 100 := by
  unfold pNum
  by_cases h : dig tx n a = true
  · have h1 := of_decide_eq_true h
    rw [if_pos h]
    by_cases h2 : dig tx n (a + 1) = true
    · have h3 := of_decide_eq_true h2
      rw [if_pos h2]; show 10 * (tx a - 48) + (tx (a + 1) - 48) < 100; omega
    · rw [if_neg h2]; show tx a - 48 < 100; omega
  · rw [if_neg h]; show 0 < 100; omega
/-- what a reading of the class has done -/
def CO (z k : Nat) (M : PM) (L : List Nat) (a : Nat) (x : Option (Int32 × AH)) (ok : Bool) (b : Nat) (v : VF) (h : Nat) : Prop :=
  ∃ M' c, x = some (bI ok, enc z M') ∧ Fk k M M' ∧ M'.1 k 7 = nI b ∧ SR M' k (L ++ c) ∧ a + c.length ≤ b ∧ (ok = true → Cod c v h)
/-- the class stands at a, behind the steps L -/
def CS (M : PM) (k n : Nat) (tx : Nat → Nat) (a : Nat) (L : List Nat) : Prop := PT M k n tx ∧ M.1 k 7 = nI a ∧ a ≤ n ∧ SR M k L ∧ L.length ≤ a
section
variable {z : Nat} {k n : Nat} {tx : Nat → Nat} (N : Nat)
theorem pin5 (hN : 10 ≤ N) {M : PM} (hT : PT M k n tx) {h : AH} {a : Nat} : fX5_placeIn N h 5 (sgI tx n a) = some (ixI (li (cu tx n a)), h) := by
  have e := ixs5 N hN hT (h := h) (a := a)
  unfold fX5_placeIn
  by_cases q : sgI tx n a = (-1 : Int32)
  · rw [if_pos q]
    rw [q, show ((-1 : Int32).toUInt32 % 65536).toInt32 = nI 65535 by decide +kernel, ixM N 5 (Or.inl rfl)] at e
    rw [← e]; rfl
  · rw [if_neg q, bnd (w_sv 5 (by omega)), zc e]
theorem pin6 (hN : 10 ≤ N) {M : PM} (hT : PT M k n tx) {h : AH} {a : Nat} : fX5_placeIn N h 6 (sgI tx n a) = some (ixI (ci (cu tx n a)), h) := by
  have e := ixs6 N hN hT (h := h) (a := a)
  unfold fX5_placeIn
  by_cases q : sgI tx n a = (-1 : Int32)
  · rw [if_pos q]
    rw [q, show ((-1 : Int32).toUInt32 % 65536).toInt32 = nI 65535 by decide +kernel, ixM N 6 (Or.inr rfl)] at e
    rw [← e]; rfl
  · rw [if_neg q, bnd (w_sv 6 (by omega)), zc e]
theorem c_test (hN : 20 ≤ N) (hk : isH k) {M : PM} {a : Nat} {L : List Nat} (hC : CS M k n tx a L) : CO z k M L a (fX5_takeTest N (enc z M) (z + k)) (pTest tx n a).1 (pTest tx n a).2.1 (pTest tx n a).2.2 1 := by
  obtain ⟨hT, ha, han, hS, hL⟩ := hC
  have hn := hT.2.1
  have e1 := c_sign (z := z) N hk hT ha han
  have e2 := pin5 N (by omega) hT (h := enc z M) (a := a)
  unfold CO
  rw [fX5_takeTest, pTest]
  simp only [lit]
  by_cases hl : li (cu tx n a) = 9
  · rw [hl] at e2
    rw [if_pos hl]
    simp (disch := omega) only [↓znm_, ↓reduceIte, rn0, rn1, rbI, nle_t, nle_f, nlt_t, nlt_f, neq_t, neq_f, x_add, x_mul, x_sub, x_div, ↓x_rem, x_remN, setI_eq, setI_ne, setI_nk, setI_2, bn0, bn1, reduceCtorEq, ↓HOb hk, ↓HG0b hk, ↓HG2b hk, ↓HG4b hk, ↓HG6b hk, ↓HG7b hk, ↓HG8b hk, ↓HR1b hk, ↓HR3b hk, ↓HR5b hk, ↓HP0b hk, ↓HP2b hk, ↓HP4b hk, ↓HP6b hk, ↓HP7b hk, ↓HP8b hk, ↓HAb hk, ↓HSb hk, ↓HNb hk, ↓TAb hk, ↓TSb hk, ↓TNb hk, ↓zc e1, ↓zc e2, ixI9]
    exact ⟨M, [], rfl, Fk_refl, ha, by rw [List.append_nil]; exact hS, Nat.le_refl _, fun q => by cases q⟩
  · have hl6 := li_le _ hl
    have hlt := cu_lt (tx := tx) (n := n) (a := a) rfl (li_lt hl)
    have hT1 := PT_set hk hT (j := 7) (by omega) (nI (a + 1))
    have e3 := c_sign (z := z) N hk hT1 (a := a + 1) setI_eq (by omega)
    have e4 := pin6 N (by omega) hT1 (h := enc z (setI M k 7 (nI (a + 1)))) (a := a + 1)
    rw [ixIn (by omega)] at e2
    rw [if_neg hl]
    by_cases hc : ci (cu tx n (a + 1)) = 9
    · rw [hc] at e4
      rw [if_pos hc]
      simp (disch := omega) only [↓znm_, ↓reduceIte, rn0, rn1, rbI, nle_t, nle_f, nlt_t, nlt_f, neq_t, neq_f, x_add, x_mul, x_sub, x_div, ↓x_rem, x_remN, setI_eq, setI_ne, setI_nk, setI_2, bn0, bn1, reduceCtorEq, ↓HOb hk, ↓HG0b hk, ↓HG2b hk, ↓HG4b hk, ↓HG6b hk, ↓HG7b hk, ↓HG8b hk, ↓HR1b hk, ↓HR3b hk, ↓HR5b hk, ↓HP0b hk, ↓HP2b hk, ↓HP4b hk, ↓HP6b hk, ↓HP7b hk, ↓HP8b hk, ↓HAb hk, ↓HSb hk, ↓HNb hk, ↓TAb hk, ↓TSb hk, ↓TNb hk, ↓zc e1, ↓zc e2, ↓zc e3, ↓zc e4, ixI9, ha]
      exact ⟨setI M k 7 (nI (a + 1)), [], rfl, Fk_set (by omega) _, setI_eq, by rw [List.append_nil]; exact SR_set hS (by omega) _, by show a + 0 ≤ a + 1; omega, fun q => by cases q⟩
    · have hc3 := ci_le _ hc
      have hlt2 := cu_lt (tx := tx) (n := n) (a := a + 1) rfl (ci_lt hc)
      rw [ixIn (by omega)] at e4
      rw [if_neg hc]
      have hT2 := PT_set hk hT (j := 7) (by omega) (nI (a + 1 + 1))
      have e5 := c_num (z := z) N (by omega) hk hT2 (a := a + 2) setI_eq (by omega)
      have hp := pNum_pg tx n (a + 2) (by omega)
      have hx := pNum_lt hT (a + 2)
      simp (disch := omega) only [↓znm_, ↓reduceIte, rn0, rn1, rbI, nle_t, nle_f, nlt_t, nlt_f, neq_t, neq_f, x_add, x_mul, x_sub, x_div, ↓x_rem, x_remN, setI_eq, setI_ne, setI_nk, setI_2, bn0, bn1, reduceCtorEq, ↓HOb hk, ↓HG0b hk, ↓HG2b hk, ↓HG4b hk, ↓HG6b hk, ↓HG7b hk, ↓HG8b hk, ↓HR1b hk, ↓HR3b hk, ↓HR5b hk, ↓HP0b hk, ↓HP2b hk, ↓HP4b hk, ↓HP6b hk, ↓HP7b hk, ↓HP8b hk, ↓HAb hk, ↓HSb hk, ↓HNb hk, ↓TAb hk, ↓TSb hk, ↓TNb hk, ↓zc e1, ↓zc e2, ↓zc e3, ↓zc e4, ha, setI_twice, ↓zc e5]
      rw [setI87, setI_twice]
      have hF : Fk k M (setI (setI M k 8 (nI (pNum tx n (a + 2)).2.2)) k 7 (nI (pNum tx n (a + 2)).2.1)) := Fk_trans (Fk_set (by omega) _) (Fk_set (by omega) _)
      have hS3 : SR (setI (setI M k 8 (nI (pNum tx n (a + 2)).2.2)) k 7 (nI (pNum tx n (a + 2)).2.1)) k L := SR_set (SR_set hS (by omega) _) (by omega) _
      cases hok : (pNum tx n (a + 2)).1 with
      | false =>
        simp (disch := omega) only [↓znm_, ↓reduceIte, rn0, rn1, rbI, nle_t, nle_f, nlt_t, nlt_f, neq_t, neq_f, x_add, x_mul, x_sub, x_div, ↓x_rem, x_remN, setI_eq, setI_ne, setI_nk, setI_2, bn0, bn1, reduceCtorEq, ↓HOb hk, ↓HG0b hk, ↓HG2b hk, ↓HG4b hk, ↓HG6b hk, ↓HG7b hk, ↓HG8b hk, ↓HR1b hk, ↓HR3b hk, ↓HR5b hk, ↓HP0b hk, ↓HP2b hk, ↓HP4b hk, ↓HP6b hk, ↓HP7b hk, ↓HP8b hk, ↓HAb hk, ↓HSb hk, ↓HNb hk, ↓TAb hk, ↓TSb hk, ↓TNb hk]
        exact ⟨_, [], rfl, hF, setI_eq, by rw [List.append_nil]; exact hS3, by show a + 0 ≤ _; omega, fun q => by cases q⟩
      | true =>
        have hlt3 := hp.2.2 hok
        have e7 := c_add (z := z) N hk hS3 (by omega) (li (cu tx n a) * 3 + ci (cu tx n (a + 1))) (pNum tx n (a + 2)).2.2
        simp (disch := omega) only [↓znm_, ↓reduceIte, rn0, rn1, rbI, nle_t, nle_f, nlt_t, nlt_f, neq_t, neq_f, x_add, x_mul, x_sub, x_div, ↓x_rem, x_remN, setI_eq, setI_ne, setI_nk, setI_2, bn0, bn1, reduceCtorEq, ↓HOb hk, ↓HG0b hk, ↓HG2b hk, ↓HG4b hk, ↓HG6b hk, ↓HG7b hk, ↓HG8b hk, ↓HR1b hk, ↓HR3b hk, ↓HR5b hk, ↓HP0b hk, ↓HP2b hk, ↓HP4b hk, ↓HP6b hk, ↓HP7b hk, ↓HP8b hk, ↓HAb hk, ↓HSb hk, ↓HNb hk, ↓TAb hk, ↓TSb hk, ↓TNb hk, ↓zc e7, bn0]
        refine ⟨_, [(li (cu tx n a) * 3 + ci (cu tx n (a + 1))) * 256 + (pNum tx n (a + 2)).2.2], rfl, Fk_trans hF add_F, by rw [add_7]; exact setI_eq, add_SR hS3 (by omega) (by omega), by show a + 1 ≤ _; omega, fun _ => ?_⟩
        by_cases h3 : li (cu tx n a) = 3
        · rw [h3]; exact Cod_fact hc3 (by omega)
        · exact Cod_test hl6 h3 hc3 (by omega)
theorem c_andL (hN : 300 ≤ N) (hk : isH k) {item : Nat → PR} {h0 d : Nat} {rO : AH → Nat → Int32 → Option (Int32 × AH)} (hp : ∀ a, Pg n a (item a).1 (item a).2.1) (h01 : 1 ≤ h0) (hi : ∀ (M : PM) (a : Nat) (L : List Nat), CS M k n tx a L → CO z k M L a (rO (enc z M) (z + k) (nI d)) (item a).1 (item a).2.1 (item a).2.2 h0) {M0 : PM} {L : List Nat} {a0 : Nat} : ∀ m x3 (M : PM) (c : List Nat) (r : PR), x3 ≤ 100 → 100 - x3 < m → Fk k M0 M → PT M k n tx → M.1 k 7 = nI r.2.1 → r.2.1 ≤ n → SR M k (L ++ c) → a0 + c.length ≤ r.2.1 → L.length ≤ a0 → (r.1 = true → Cod c r.2.2 (h0 + 1)) → CO z k M0 L a0 (zfix (fun _ _ _ _ _ => none) (bX5_takeBoth_8 N rO) m (enc z M) (z + k) (nI d) (bI r.1) (nI x3)) (pLoop tx n 38 vAnd item (100 - x3) r).1 (pLoop tx n 38 vAnd item (100 - x3) r).2.1 (pLoop tx n 38 vAnd item (100 - x3) r).2.2 (h0 + 1) := by
  intro m
  induction m with
  | zero => intro x3 M c r _ h; omega
  | succ m ih =>
    intro x3 M c r hx hm hF hT ha han hS hl hL hc
    have hn := hT.2.1
    rw [zfix_succ, bX5_takeBoth_8]
    simp only [lit]
    by_cases h100 : x3 = 100
    · subst h100
      unfold CO
      simp (disch := omega) only [↓znm_, ↓reduceIte, rn0, rn1, rbI, nle_t, nle_f, nlt_t, nlt_f, neq_t, neq_f, x_add, x_mul, x_sub, x_div, ↓x_rem, x_remN, setI_eq, setI_ne, setI_nk, setI_2, bn0, bn1, reduceCtorEq]
      exact ⟨M, c, rfl, hF, ha, hS, hl, hc⟩
    · obtain ⟨q, hq⟩ : ∃ q, 100 - x3 = q + 1 := ⟨100 - x3 - 1, by omega⟩
      have hq2 : q = 100 - (x3 + 1) := by omega
      rw [hq, pLoop]
      cases hok : r.1 with
      | false =>
        rw [if_neg (by intro w; cases w.1)]
        unfold CO
        simp (disch := omega) only [↓znm_, ↓reduceIte, rn0, rn1, rbI, nle_t, nle_f, nlt_t, nlt_f, neq_t, neq_f, x_add, x_mul, x_sub, x_div, ↓x_rem, x_remN, setI_eq, setI_ne, setI_nk, setI_2, bn0, bn1, reduceCtorEq]
        exact ⟨M, c, by rw [hok], hF, ha, hS, hl, fun w => by rw [hok] at w; cases w⟩
      | true =>
        have e1 := c_sign (z := z) N hk hT ha han
        have hsg := sg_eq hT (a := r.2.1) (c := 38) (by omega)
        by_cases hcu : cu tx n r.2.1 = 38
        · have hlt := cu_lt hcu (by omega)
          rw [if_pos ⟨rfl, hcu⟩]
          have hF1 : Fk k M (setI M k 7 (nI (r.2.1 + 1))) := Fk_set (by omega) _
          have hT1 := PT_set hk hT (j := 7) (by omega) (nI (r.2.1 + 1))
          have hS1 := SR_set hS (j := 7) (by omega) (nI (r.2.1 + 1))
          obtain ⟨M2, c2, f1, f2, f3, f4, f5, f6⟩ := hi (setI M k 7 (nI (r.2.1 + 1))) (r.2.1 + 1) (L ++ c) ⟨hT1, setI_eq, by omega, hS1, by rw [List.length_append]; omega⟩
          have hp2 := hp (r.2.1 + 1) (by omega)
          have hF2 := Fk_trans hF (Fk_trans hF1 f2)
          have hT2 := PT_F hk f2 hT1
          cases hok2 : (item (r.2.1 + 1)).1 with
          | false =>
            rw [hok2] at f1
            simp (disch := omega) only [↓znm_, ↓reduceIte, rn0, rn1, rbI, nle_t, nle_f, nlt_t, nlt_f, neq_t, neq_f, x_add, x_mul, x_sub, x_div, ↓x_rem, x_remN, setI_eq, setI_ne, setI_nk, setI_2, bn0, bn1, reduceCtorEq, ↓HOb hk, ↓HG0b hk, ↓HG2b hk, ↓HG4b hk, ↓HG6b hk, ↓HG7b hk, ↓HG8b hk, ↓HR1b hk, ↓HR3b hk, ↓HR5b hk, ↓HP0b hk, ↓HP2b hk, ↓HP4b hk, ↓HP6b hk, ↓HP7b hk, ↓HP8b hk, ↓HAb hk, ↓HSb hk, ↓HNb hk, ↓TAb hk, ↓TSb hk, ↓TNb hk, ↓zc e1, ha, hsg, hcu, ↓zc f1]
            have := ih (x3 + 1) M2 (c ++ c2) (false, (item (r.2.1 + 1)).2.1, vAnd r.2.2 (item (r.2.1 + 1)).2.2) (by omega) (by omega) hF2 hT2 f3 hp2.2.1 (by rw [← List.append_assoc]; exact f4) (by rw [List.length_append]; show _ ≤ (item (r.2.1 + 1)).2.1; omega) hL (fun w => by cases w)
            rw [← hq2] at this
            exact this
          | true =>
            rw [hok2] at f1
            have f6 := f6 hok2
            have hlen : (L ++ c ++ c2).length < 100 := by
              rw [List.length_append, List.length_append]; have := hp2.2.1; omega
            have e7 := c_add (z := z) N hk f4 hlen 19 0
            simp (disch := omega) only [↓znm_, ↓reduceIte, rn0, rn1, rbI, nle_t, nle_f, nlt_t, nlt_f, neq_t, neq_f, x_add, x_mul, x_sub, x_div, ↓x_rem, x_remN, setI_eq, setI_ne, setI_nk, setI_2, bn0, bn1, reduceCtorEq, ↓HOb hk, ↓HG0b hk, ↓HG2b hk, ↓HG4b hk, ↓HG6b hk, ↓HG7b hk, ↓HG8b hk, ↓HR1b hk, ↓HR3b hk, ↓HR5b hk, ↓HP0b hk, ↓HP2b hk, ↓HP4b hk, ↓HP6b hk, ↓HP7b hk, ↓HP8b hk, ↓HAb hk, ↓HSb hk, ↓HNb hk, ↓TAb hk, ↓TSb hk, ↓TNb hk, ↓zc e1, ha, hsg, hcu, ↓zc f1, ↓zc e7]
            have := ih (x3 + 1) (addM M2 k (L ++ c ++ c2) (19 * 256 + 0)) (c ++ c2 ++ [19 * 256 + 0]) (true, (item (r.2.1 + 1)).2.1, vAnd r.2.2 (item (r.2.1 + 1)).2.2) (by omega) (by omega) (Fk_trans hF2 add_F) (PT_F hk add_F hT2) (by rw [add_7]; exact f3) hp2.2.1 (by
              have := add_SR f4 hlen (c := 19 * 256 + 0) (by omega)
              rw [← List.append_assoc, ← List.append_assoc]; exact this) (by rw [List.length_append, List.length_append]; show _ + (_ + _ + 1) ≤ (item (r.2.1 + 1)).2.1; omega) hL (fun _ => Cod_and (hc hok) f6 (Nat.le_refl _) h01)
            rw [← hq2] at this
            exact this
        · rw [if_neg (fun w => hcu w.2)]
          unfold CO
          simp (disch := omega) only [↓znm_, ↓reduceIte, rn0, rn1, rbI, nle_t, nle_f, nlt_t, nlt_f, neq_t, neq_f, x_add, x_mul, x_sub, x_div, ↓x_rem, x_remN, setI_eq, setI_ne, setI_nk, setI_2, bn0, bn1, reduceCtorEq, ↓HOb hk, ↓HG0b hk, ↓HG2b hk, ↓HG4b hk, ↓HG6b hk, ↓HG7b hk, ↓HG8b hk, ↓HR1b hk, ↓HR3b hk, ↓HR5b hk, ↓HP0b hk, ↓HP2b hk, ↓HP4b hk, ↓HP6b hk, ↓HP7b hk, ↓HP8b hk, ↓HAb hk, ↓HSb hk, ↓HNb hk, ↓TAb hk, ↓TSb hk, ↓TNb hk, ↓zc e1, ha, hsg, hcu]
          exact ⟨M, c, by rw [hok], hF, ha, hS, hl, hc⟩
theorem c_and (hN : 300 ≤ N) (hk : isH k) {item : Nat → PR} {h0 d : Nat} {rO : AH → Nat → Int32 → Option (Int32 × AH)} (hp : ∀ a, Pg n a (item a).1 (item a).2.1) (h01 : 1 ≤ h0) (hi : ∀ (M : PM) (a : Nat) (L : List Nat), CS M k n tx a L → CO z k M L a (rO (enc z M) (z + k) (nI d)) (item a).1 (item a).2.1 (item a).2.2 h0) (M : PM) (a : Nat) (L : List Nat) (hC : CS M k n tx a L) : CO z k M L a (fX5_takeBoth N rO (enc z M) (z + k) (nI d)) (pLoop tx n 38 vAnd item 100 (item a)).1 (pLoop tx n 38 vAnd item 100 (item a)).2.1 (pLoop tx n 38 vAnd item 100 (item a)).2.2 (h0 + 1) := by
  obtain ⟨M2, c2, f1, f2, f3, f4, f5, f6⟩ := hi M a L hC
  rw [fX5_takeBoth, bnd (HO hk), zc f1]
  exact c_andL N hN hk hp h01 hi N 0 M2 c2 (item a) (by omega) (by omega) f2 (PT_F hk f2 hC.1) f3 (hp a hC.2.2.1).2.1 f4 f5 hC.2.2.2.2 (fun w => Cod_up (f6 w) (by omega))
theorem c_orL (hN : 300 ≤ N) (hk : isH k) {item : Nat → PR} {h0 d : Nat} {rO : AH → Nat → Int32 → Option (Int32 × AH)} (hp : ∀ a, Pg n a (item a).1 (item a).2.1) (h01 : 1 ≤ h0) (hi : ∀ (M : PM) (a : Nat) (L : List Nat), CS M k n tx a L → CO z k M L a (rO (enc z M) (z + k) (nI d)) (item a).1 (item a).2.1 (item a).2.2 h0) {M0 : PM} {L : List Nat} {a0 : Nat} : ∀ m x3 (M : PM) (c : List Nat) (r : PR), x3 ≤ 100 → 100 - x3 < m → Fk k M0 M → PT M k n tx → M.1 k 7 = nI r.2.1 → r.2.1 ≤ n → SR M k (L ++ c) → a0 + c.length ≤ r.2.1 → L.length ≤ a0 → (r.1 = true → Cod c r.2.2 (h0 + 1)) → CO z k M0 L a0 (zfix (fun _ _ _ _ _ => none) (bX5_takeEither_8 N rO) m (enc z M) (z + k) (nI d) (bI r.1) (nI x3)) (pLoop tx n 124 vOr item (100 - x3) r).1 (pLoop tx n 124 vOr item (100 - x3) r).2.1 (pLoop tx n 124 vOr item (100 - x3) r).2.2 (h0 + 1) := by
  intro m
  induction m with
  | zero => intro x3 M c r _ h; omega
  | succ m ih =>
    intro x3 M c r hx hm hF hT ha han hS hl hL hc
    have hn := hT.2.1
    rw [zfix_succ, bX5_takeEither_8]
    simp only [lit]
    by_cases h100 : x3 = 100
    · subst h100
      unfold CO
      simp (disch := omega) only [↓znm_, ↓reduceIte, rn0, rn1, rbI, nle_t, nle_f, nlt_t, nlt_f, neq_t, neq_f, x_add, x_mul, x_sub, x_div, ↓x_rem, x_remN, setI_eq, setI_ne, setI_nk, setI_2, bn0, bn1, reduceCtorEq]
      exact ⟨M, c, rfl, hF, ha, hS, hl, hc⟩
    · obtain ⟨q, hq⟩ : ∃ q, 100 - x3 = q + 1 := ⟨100 - x3 - 1, by omega⟩
      have hq2 : q = 100 - (x3 + 1) := by omega
      rw [hq, pLoop]
      cases hok : r.1 with
      | false =>
        rw [if_neg (by intro w; cases w.1)]
        unfold CO
        simp (disch := omega) only [↓znm_, ↓reduceIte, rn0, rn1, rbI, nle_t, nle_f, nlt_t, nlt_f, neq_t, neq_f, x_add, x_mul, x_sub, x_div, ↓x_rem, x_remN, setI_eq, setI_ne, setI_nk, setI_2, bn0, bn1, reduceCtorEq]
        exact ⟨M, c, by rw [hok], hF, ha, hS, hl, fun w => by rw [hok] at w; cases w⟩
      | true =>
        have e1 := c_sign (z := z) N hk hT ha han
        have hsg := sg_eq hT (a := r.2.1) (c := 124) (by omega)
        by_cases hcu : cu tx n r.2.1 = 124
        · have hlt := cu_lt hcu (by omega)
          rw [if_pos ⟨rfl, hcu⟩]
          have hF1 : Fk k M (setI M k 7 (nI (r.2.1 + 1))) := Fk_set (by omega) _
          have hT1 := PT_set hk hT (j := 7) (by omega) (nI (r.2.1 + 1))
          have hS1 := SR_set hS (j := 7) (by omega) (nI (r.2.1 + 1))
          obtain ⟨M2, c2, f1, f2, f3, f4, f5, f6⟩ := hi (setI M k 7 (nI (r.2.1 + 1))) (r.2.1 + 1) (L ++ c) ⟨hT1, setI_eq, by omega, hS1, by rw [List.length_append]; omega⟩
          have hp2 := hp (r.2.1 + 1) (by omega)
          have hF2 := Fk_trans hF (Fk_trans hF1 f2)
          have hT2 := PT_F hk f2 hT1
          cases hok2 : (item (r.2.1 + 1)).1 with
          | false =>
            rw [hok2] at f1
            simp (disch := omega) only [↓znm_, ↓reduceIte, rn0, rn1, rbI, nle_t, nle_f, nlt_t, nlt_f, neq_t, neq_f, x_add, x_mul, x_sub, x_div, ↓x_rem, x_remN, setI_eq, setI_ne, setI_nk, setI_2, bn0, bn1, reduceCtorEq, ↓HOb hk, ↓HG0b hk, ↓HG2b hk, ↓HG4b hk, ↓HG6b hk, ↓HG7b hk, ↓HG8b hk, ↓HR1b hk, ↓HR3b hk, ↓HR5b hk, ↓HP0b hk, ↓HP2b hk, ↓HP4b hk, ↓HP6b hk, ↓HP7b hk, ↓HP8b hk, ↓HAb hk, ↓HSb hk, ↓HNb hk, ↓TAb hk, ↓TSb hk, ↓TNb hk, ↓zc e1, ha, hsg, hcu, ↓zc f1]
            have := ih (x3 + 1) M2 (c ++ c2) (false, (item (r.2.1 + 1)).2.1, vOr r.2.2 (item (r.2.1 + 1)).2.2) (by omega) (by omega) hF2 hT2 f3 hp2.2.1 (by rw [← List.append_assoc]; exact f4) (by rw [List.length_append]; show _ ≤ (item (r.2.1 + 1)).2.1; omega) hL (fun w => by cases w)
            rw [← hq2] at this
            exact this
          | true =>
            rw [hok2] at f1
            have f6 := f6 hok2
            have hlen : (L ++ c ++ c2).length < 100 := by
              rw [List.length_append, List.length_append]; have := hp2.2.1; omega
            have e7 := c_add (z := z) N hk f4 hlen 20 0
            simp (disch := omega) only [↓znm_, ↓reduceIte, rn0, rn1, rbI, nle_t, nle_f, nlt_t, nlt_f, neq_t, neq_f, x_add, x_mul, x_sub, x_div, ↓x_rem, x_remN, setI_eq, setI_ne, setI_nk, setI_2, bn0, bn1, reduceCtorEq, ↓HOb hk, ↓HG0b hk, ↓HG2b hk, ↓HG4b hk, ↓HG6b hk, ↓HG7b hk, ↓HG8b hk, ↓HR1b hk, ↓HR3b hk, ↓HR5b hk, ↓HP0b hk, ↓HP2b hk, ↓HP4b hk, ↓HP6b hk, ↓HP7b hk, ↓HP8b hk, ↓HAb hk, ↓HSb hk, ↓HNb hk, ↓TAb hk, ↓TSb hk, ↓TNb hk, ↓zc e1, ha, hsg, hcu, ↓zc f1, ↓zc e7]
            have := ih (x3 + 1) (addM M2 k (L ++ c ++ c2) (20 * 256 + 0)) (c ++ c2 ++ [20 * 256 + 0]) (true, (item (r.2.1 + 1)).2.1, vOr r.2.2 (item (r.2.1 + 1)).2.2) (by omega) (by omega) (Fk_trans hF2 add_F) (PT_F hk add_F hT2) (by rw [add_7]; exact f3) hp2.2.1 (by
              have := add_SR f4 hlen (c := 20 * 256 + 0) (by omega)
              rw [← List.append_assoc, ← List.append_assoc]; exact this) (by rw [List.length_append, List.length_append]; show _ + (_ + _ + 1) ≤ (item (r.2.1 + 1)).2.1; omega) hL (fun _ => Cod_or (hc hok) f6 (Nat.le_refl _) h01)
            rw [← hq2] at this
            exact this
        · rw [if_neg (fun w => hcu w.2)]
          unfold CO
          simp (disch := omega) only [↓znm_, ↓reduceIte, rn0, rn1, rbI, nle_t, nle_f, nlt_t, nlt_f, neq_t, neq_f, x_add, x_mul, x_sub, x_div, ↓x_rem, x_remN, setI_eq, setI_ne, setI_nk, setI_2, bn0, bn1, reduceCtorEq, ↓HOb hk, ↓HG0b hk, ↓HG2b hk, ↓HG4b hk, ↓HG6b hk, ↓HG7b hk, ↓HG8b hk, ↓HR1b hk, ↓HR3b hk, ↓HR5b hk, ↓HP0b hk, ↓HP2b hk, ↓HP4b hk, ↓HP6b hk, ↓HP7b hk, ↓HP8b hk, ↓HAb hk, ↓HSb hk, ↓HNb hk, ↓TAb hk, ↓TSb hk, ↓TNb hk, ↓zc e1, ha, hsg, hcu]
          exact ⟨M, c, by rw [hok], hF, ha, hS, hl, hc⟩
theorem c_or (hN : 300 ≤ N) (hk : isH k) {item : Nat → PR} {h0 d : Nat} {rO : AH → Nat → Int32 → Option (Int32 × AH)} (hp : ∀ a, Pg n a (item a).1 (item a).2.1) (h01 : 1 ≤ h0) (hi : ∀ (M : PM) (a : Nat) (L : List Nat), CS M k n tx a L → CO z k M L a (rO (enc z M) (z + k) (nI d)) (item a).1 (item a).2.1 (item a).2.2 h0) (M : PM) (a : Nat) (L : List Nat) (hC : CS M k n tx a L) : CO z k M L a (fX5_takeEither N rO (enc z M) (z + k) (nI d)) (pLoop tx n 124 vOr item 100 (item a)).1 (pLoop tx n 124 vOr item 100 (item a)).2.1 (pLoop tx n 124 vOr item 100 (item a)).2.2 (h0 + 1) := by
  obtain ⟨M2, c2, f1, f2, f3, f4, f5, f6⟩ := hi M a L hC
  rw [fX5_takeEither, bnd (HO hk), zc f1]
  exact c_orL N hN hk hp h01 hi N 0 M2 c2 (item a) (by omega) (by omega) f2 (PT_F hk f2 hC.1) f3 (hp a hC.2.2.1).2.1 f4 f5 hC.2.2.2.2 (fun w => Cod_up (f6 w) (by omega))
theorem c_one (hN : 300 ≤ N) (hk : isH k) : ∀ kk, kk ≤ 4 → ∀ dd, kk < dd → ∀ (M : PM) (a : Nat) (L : List Nat), CS M k n tx a L → CO z k M L a (gX5_takeOne N dd (enc z M) (z + k) (nI (4 - kk))) (pFac tx n kk a).1 (pFac tx n kk a).2.1 (pFac tx n kk a).2.2 (2 * kk + 1) := by
  intro kk
  induction kk with
  | zero =>
    intro _ dd hd M a L hC
    obtain ⟨dd, rfl⟩ : ∃ q, dd = q + 1 := ⟨dd - 1, by omega⟩
    have hT := hC.1
    have e1 := c_sign (z := z) N hk hT hC.2.1 hC.2.2.1
    obtain ⟨M2, c2, f1, f2, f3, f4, f5, f6⟩ := c_test (z := z) N (by omega) hk hC
    have s33 := sg_eq hT (a := a) (c := 33) (by omega)
    have s40 := sg_eq hT (a := a) (c := 40) (by omega)
    unfold gX5_takeOne
    rw [zfix_succ, fX5_takeOne, pFac]
    simp only [lit]
    by_cases q33 : cu tx n a = 33
    · have ef : pTest tx n a = (false, a, fun _ => false) := by unfold pTest; rw [q33, if_pos (show li 33 = 9 from rfl)]
      rw [ef]
      refine ⟨M, [], ?_, Fk_refl, hC.2.1, by rw [List.append_nil]; exact hC.2.2.2.1, Nat.le_refl _, fun w => by cases w⟩
      simp (disch := omega) only [↓znm_, ↓reduceIte, rn0, rn1, rbI, nle_t, nle_f, nlt_t, nlt_f, neq_t, neq_f, x_add, x_mul, x_sub, x_div, ↓x_rem, x_remN, setI_eq, setI_ne, setI_nk, setI_2, bn0, bn1, reduceCtorEq, ↓HOb hk, ↓HG0b hk, ↓HG2b hk, ↓HG4b hk, ↓HG6b hk, ↓HG7b hk, ↓HG8b hk, ↓HR1b hk, ↓HR3b hk, ↓HR5b hk, ↓HP0b hk, ↓HP2b hk, ↓HP4b hk, ↓HP6b hk, ↓HP7b hk, ↓HP8b hk, ↓HAb hk, ↓HSb hk, ↓HNb hk, ↓TAb hk, ↓TSb hk, ↓TNb hk, ↓zc e1, s33, q33, bX5_takeOne_22, lit]
      rfl
    · by_cases q40 : cu tx n a = 40
      · have ef : pTest tx n a = (false, a, fun _ => false) := by unfold pTest; rw [q40, if_pos (show li 40 = 9 from rfl)]
        rw [ef]
        refine ⟨M, [], ?_, Fk_refl, hC.2.1, by rw [List.append_nil]; exact hC.2.2.2.1, Nat.le_refl _, fun w => by cases w⟩
        simp (disch := omega) only [↓znm_, ↓reduceIte, rn0, rn1, rbI, nle_t, nle_f, nlt_t, nlt_f, neq_t, neq_f, x_add, x_mul, x_sub, x_div, ↓x_rem, x_remN, setI_eq, setI_ne, setI_nk, setI_2, bn0, bn1, reduceCtorEq, ↓HOb hk, ↓HG0b hk, ↓HG2b hk, ↓HG4b hk, ↓HG6b hk, ↓HG7b hk, ↓HG8b hk, ↓HR1b hk, ↓HR3b hk, ↓HR5b hk, ↓HP0b hk, ↓HP2b hk, ↓HP4b hk, ↓HP6b hk, ↓HP7b hk, ↓HP8b hk, ↓HAb hk, ↓HSb hk, ↓HNb hk, ↓TAb hk, ↓TSb hk, ↓TNb hk, ↓zc e1, s33, s40, q33, q40, bX5_takeOne_22, lit]
        rfl
      · refine ⟨M2, c2, ?_, f2, f3, f4, f5, f6⟩
        simp (disch := omega) only [↓znm_, ↓reduceIte, rn0, rn1, rbI, nle_t, nle_f, nlt_t, nlt_f, neq_t, neq_f, x_add, x_mul, x_sub, x_div, ↓x_rem, x_remN, setI_eq, setI_ne, setI_nk, setI_2, bn0, bn1, reduceCtorEq, ↓HOb hk, ↓HG0b hk, ↓HG2b hk, ↓HG4b hk, ↓HG6b hk, ↓HG7b hk, ↓HG8b hk, ↓HR1b hk, ↓HR3b hk, ↓HR5b hk, ↓HP0b hk, ↓HP2b hk, ↓HP4b hk, ↓HP6b hk, ↓HP7b hk, ↓HP8b hk, ↓HAb hk, ↓HSb hk, ↓HNb hk, ↓TAb hk, ↓TSb hk, ↓TNb hk, ↓zc e1, s33, s40, q33, q40, ↓zc f1]
  | succ kk ih =>
    intro hk4 dd hd M a L hC
    obtain ⟨dd, rfl⟩ : ∃ q, dd = q + 1 := ⟨dd - 1, by omega⟩
    have ih := ih (by omega) dd (by omega)
    have hT := hC.1
    have ha := hC.2.1
    have han := hC.2.2.1
    have hn := hT.2.1
    have e1 := c_sign (z := z) N hk hT ha han
    have s33 := sg_eq hT (a := a) (c := 33) (by omega)
    have s40 := sg_eq hT (a := a) (c := 40) (by omega)
    have hnum : 4 - (kk + 1) + 1 = 4 - kk := by omega
    have hF1 : Fk k M (setI M k 7 (nI (a + 1))) := Fk_set (by omega) _
    have hT1 := PT_set hk hT (j := 7) (by omega) (nI (a + 1))
    have hS1 := SR_set hC.2.2.2.1 (j := 7) (by omega) (nI (a + 1))
    unfold gX5_takeOne at ih ⊢
    rw [zfix_succ, fX5_takeOne, pFac]
    simp only [lit]
    by_cases q33 : cu tx n a = 33
    · have hlt := cu_lt q33 (by omega)
      obtain ⟨M2, c2, f1, f2, f3, f4, f5, f6⟩ := ih (setI M k 7 (nI (a + 1))) (a + 1) L ⟨hT1, setI_eq, by omega, hS1, by have := hC.2.2.2.2; omega⟩
      have hp2 := pFac_pg tx n kk (a + 1) (by omega)
      have hL := hC.2.2.2.2
      rw [if_pos q33]
      cases hok : (pFac tx n kk (a + 1)).1 with
      | false =>
        rw [hok] at f1
        refine ⟨M2, c2, ?_, Fk_trans hF1 f2, f3, f4, by show _ ≤ (pFac tx n kk (a + 1)).2.1; omega, fun w => by cases w⟩
        simp (disch := omega) only [↓znm_, ↓reduceIte, rn0, rn1, rbI, nle_t, nle_f, nlt_t, nlt_f, neq_t, neq_f, x_add, x_mul, x_sub, x_div, ↓x_rem, x_remN, setI_eq, setI_ne, setI_nk, setI_2, bn0, bn1, reduceCtorEq, ↓HOb hk, ↓HG0b hk, ↓HG2b hk, ↓HG4b hk, ↓HG6b hk, ↓HG7b hk, ↓HG8b hk, ↓HR1b hk, ↓HR3b hk, ↓HR5b hk, ↓HP0b hk, ↓HP2b hk, ↓HP4b hk, ↓HP6b hk, ↓HP7b hk, ↓HP8b hk, ↓HAb hk, ↓HSb hk, ↓HNb hk, ↓TAb hk, ↓TSb hk, ↓TNb hk, ↓zc e1, s33, q33, bX5_takeOne_22, lit, ha, hnum, ↓zc f1]
        rfl
      | true =>
        rw [hok] at f1
        have hlen : (L ++ c2).length < 100 := by rw [List.length_append]; have := hp2.2.1; omega
        have e7 := c_add (z := z) N hk f4 hlen 21 0
        refine ⟨addM M2 k (L ++ c2) (21 * 256 + 0), c2 ++ [21 * 256 + 0], ?_, Fk_trans hF1 (Fk_trans f2 add_F), by rw [add_7]; exact f3, by rw [← List.append_assoc]; exact add_SR f4 hlen (by omega), by rw [List.length_append]; show _ + (_ + 1) ≤ (pFac tx n kk (a + 1)).2.1; omega, fun _ => Cod_up (Cod_not (f6 hok) (by omega)) (by omega)⟩
        simp (disch := omega) only [↓znm_, ↓reduceIte, rn0, rn1, rbI, nle_t, nle_f, nlt_t, nlt_f, neq_t, neq_f, x_add, x_mul, x_sub, x_div, ↓x_rem, x_remN, setI_eq, setI_ne, setI_nk, setI_2, bn0, bn1, reduceCtorEq, ↓HOb hk, ↓HG0b hk, ↓HG2b hk, ↓HG4b hk, ↓HG6b hk, ↓HG7b hk, ↓HG8b hk, ↓HR1b hk, ↓HR3b hk, ↓HR5b hk, ↓HP0b hk, ↓HP2b hk, ↓HP4b hk, ↓HP6b hk, ↓HP7b hk, ↓HP8b hk, ↓HAb hk, ↓HSb hk, ↓HNb hk, ↓TAb hk, ↓TSb hk, ↓TNb hk, ↓zc e1, s33, q33, bX5_takeOne_22, lit, ha, hnum, ↓zc f1, ↓zc e7]
        rfl
    · rw [if_neg q33]
      by_cases q40 : cu tx n a = 40
      · have hlt := cu_lt q40 (by omega)
        have hL := hC.2.2.2.2
        obtain ⟨M2, c2, f1, f2, f3, f4, f5, f6⟩ := c_or N hN hk (pBoth_pg (pFac_pg tx n kk)) (by omega) (c_and N hN hk (pFac_pg tx n kk) (by omega) ih) (setI M k 7 (nI (a + 1))) (a + 1) L ⟨hT1, setI_eq, by omega, hS1, by omega⟩
        have hp2 := pAny_pg (tx := tx) (pFac_pg tx n kk) (a + 1) (by omega)
        rw [if_pos q40]
        have hT2 := PT_F hk f2 hT1
        generalize hr : pAny tx n (pFac tx n kk) (a + 1) = r at hp2
        have f1 : fX5_takeEither N (fX5_takeBoth N (zfix (fun _ _ _ => none) (fun r => fX5_takeOne N r (fX5_takeEither N (fX5_takeBoth N r))) dd)) (enc z (setI M k 7 (nI (a + 1)))) (z + k) (nI (4 - kk)) = some (bI (pAny tx n (pFac tx n kk) (a + 1)).1, enc z M2) := f1
        have f3 : M2.1 k 7 = nI (pAny tx n (pFac tx n kk) (a + 1)).2.1 := f3
        have f5 : a + 1 + c2.length ≤ (pAny tx n (pFac tx n kk) (a + 1)).2.1 := f5
        have f6 : (pAny tx n (pFac tx n kk) (a + 1)).1 = true → Cod c2 (pAny tx n (pFac tx n kk) (a + 1)).2.2 _ := f6
        rw [hr] at f1 f3 f5 f6
        have e8 := c_word (z := z) N (by omega) hk 4 (by omega) hT2 f3 hp2.2.1
        have ew : pWord tx n (wl 4) r.2.1 = if cu tx n r.2.1 = 41 then (true, r.2.1 + 1) else (false, r.2.1) := rfl
        rw [ew] at e8
        unfold pCls
        cases hok : r.1 with
        | false =>
          rw [hok] at f1
          rw [if_neg (fun w => by cases w.1)]
          refine ⟨M2, c2, ?_, Fk_trans hF1 f2, f3, f4, by show _ ≤ r.2.1; omega, fun w => by cases w⟩
          simp (disch := omega) only [↓znm_, ↓reduceIte, rn0, rn1, rbI, nle_t, nle_f, nlt_t, nlt_f, neq_t, neq_f, x_add, x_mul, x_sub, x_div, ↓x_rem, x_remN, setI_eq, setI_ne, setI_nk, setI_2, bn0, bn1, reduceCtorEq, ↓HOb hk, ↓HG0b hk, ↓HG2b hk, ↓HG4b hk, ↓HG6b hk, ↓HG7b hk, ↓HG8b hk, ↓HR1b hk, ↓HR3b hk, ↓HR5b hk, ↓HP0b hk, ↓HP2b hk, ↓HP4b hk, ↓HP6b hk, ↓HP7b hk, ↓HP8b hk, ↓HAb hk, ↓HSb hk, ↓HNb hk, ↓TAb hk, ↓TSb hk, ↓TNb hk, ↓zc e1, s33, s40, q33, q40, bX5_takeOne_22, lit, ha, hnum, ↓zc f1]
          rfl
        | true =>
          rw [hok] at f1
          by_cases q41 : cu tx n r.2.1 = 41
          · rw [if_pos ⟨rfl, q41⟩]
            rw [if_pos q41] at e8
            refine ⟨_, c2, ?_, Fk_trans hF1 (Fk_trans f2 (Fk_set (j := 7) (by omega) _)), setI_eq, SR_set f4 (by omega) _, by show _ ≤ r.2.1 + 1; omega, fun _ => Cod_up (f6 hok) (by omega)⟩
            rotate_left
            · simp (disch := omega) only [↓znm_, ↓reduceIte, rn0, rn1, rbI, nle_t, nle_f, nlt_t, nlt_f, neq_t, neq_f, x_add, x_mul, x_sub, x_div, ↓x_rem, x_remN, setI_eq, setI_ne, setI_nk, setI_2, bn0, bn1, reduceCtorEq, ↓HOb hk, ↓HG0b hk, ↓HG2b hk, ↓HG4b hk, ↓HG6b hk, ↓HG7b hk, ↓HG8b hk, ↓HR1b hk, ↓HR3b hk, ↓HR5b hk, ↓HP0b hk, ↓HP2b hk, ↓HP4b hk, ↓HP6b hk, ↓HP7b hk, ↓HP8b hk, ↓HAb hk, ↓HSb hk, ↓HNb hk, ↓TAb hk, ↓TSb hk, ↓TNb hk, ↓zc e1, s33, s40, q33, q40, bX5_takeOne_22, lit, ha, hnum, ↓zc f1, ↓zc e8]
              rfl
          · rw [if_neg (fun w => q41 w.2)]
            rw [if_neg q41] at e8
            refine ⟨_, c2, ?_, Fk_trans hF1 (Fk_trans f2 (Fk_set (j := 7) (by omega) _)), setI_eq, SR_set f4 (by omega) _, by show _ ≤ r.2.1; omega, fun w => by cases w⟩
            rotate_left
            · simp (disch := omega) only [↓znm_, ↓reduceIte, rn0, rn1, rbI, nle_t, nle_f, nlt_t, nlt_f, neq_t, neq_f, x_add, x_mul, x_sub, x_div, ↓x_rem, x_remN, setI_eq, setI_ne, setI_nk, setI_2, bn0, bn1, reduceCtorEq, ↓HOb hk, ↓HG0b hk, ↓HG2b hk, ↓HG4b hk, ↓HG6b hk, ↓HG7b hk, ↓HG8b hk, ↓HR1b hk, ↓HR3b hk, ↓HR5b hk, ↓HP0b hk, ↓HP2b hk, ↓HP4b hk, ↓HP6b hk, ↓HP7b hk, ↓HP8b hk, ↓HAb hk, ↓HSb hk, ↓HNb hk, ↓TAb hk, ↓TSb hk, ↓TNb hk, ↓zc e1, s33, s40, q33, q40, bX5_takeOne_22, lit, ha, hnum, ↓zc f1, ↓zc e8]
              rfl
      · rw [if_neg q40]
        obtain ⟨M2, c2, f1, f2, f3, f4, f5, f6⟩ := c_test (z := z) N (by omega) hk hC
        refine ⟨M2, c2, ?_, f2, f3, f4, f5, fun w => Cod_up (f6 w) (by omega)⟩
        simp (disch := omega) only [↓znm_, ↓reduceIte, rn0, rn1, rbI, nle_t, nle_f, nlt_t, nlt_f, neq_t, neq_f, x_add, x_mul, x_sub, x_div, ↓x_rem, x_remN, setI_eq, setI_ne, setI_nk, setI_2, bn0, bn1, reduceCtorEq, ↓HOb hk, ↓HG0b hk, ↓HG2b hk, ↓HG4b hk, ↓HG6b hk, ↓HG7b hk, ↓HG8b hk, ↓HR1b hk, ↓HR3b hk, ↓HR5b hk, ↓HP0b hk, ↓HP2b hk, ↓HP4b hk, ↓HP6b hk, ↓HP7b hk, ↓HP8b hk, ↓HAb hk, ↓HSb hk, ↓HNb hk, ↓TAb hk, ↓TSb hk, ↓TNb hk, ↓zc e1, s33, s40, q33, q40, ↓zc f1]
end
