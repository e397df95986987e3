def Fk0 (k : Nat) (M M' : PM) : Prop := M'.2 = M.2 ∧ ∀ c j, c ≠ k + 1 → ¬ (c = k ∧ (j = 0 ∨ j = 2 ∨ j = 7 ∨ j = 8)) → M'.1 c j = M.1 c j
theorem Fk0_of {k : Nat} {M M' : PM} (h : Fk k M M') : Fk0 k M M' := ⟨h.1, fun c j a b => h.2 c j a (fun q => b ⟨q.1, Or.inr q.2⟩)⟩
theorem Fk0_trans {k : Nat} {M M' M'' : PM} (h : Fk0 k M M') (h' : Fk0 k M' M'') : Fk0 k M M'' := ⟨h'.1.trans h.1, fun c j a b => (h'.2 c j a b).trans (h.2 c j a b)⟩
theorem Fk0_set {k : Nat} {M : PM} {j : Nat} (hj : j = 0 ∨ j = 2 ∨ j = 7 ∨ j = 8) (v : Int32) : Fk0 k M (setI M k j v) := ⟨rfl, fun c i _ h => by rw [setI_at, if_neg (fun q => h ⟨q.1, by rw [q.2]; exact hj⟩)]⟩
theorem PT_F0 {k n : Nat} {tx : Nat → Nat} {M M' : PM} (hk : isH k) (hF : Fk0 k M M') (hT : PT M k n tx) : PT M' k n tx := by
  obtain ⟨h6, hn, hB, ht⟩ := hT
  have h84 := isH_84 hk
  refine ⟨by rw [hF.2 k 6 (by omega) (by omega)]; exact h6, hn, by rw [hF.1]; exact hB, fun i hi => ?_⟩
  rw [hF.2 84 i h84.2.1 (fun q => h84.1 q.1)]
  exact ht i hi
theorem HC_hr {L : List Nat} {S : SF} {x : Nat} {v : VF} (h : HC L S) : HC L (apS (2, x, v) S) := h
def CC (z k : Nat) (M : PM) (S : SF) (h : Nat) (x : Option (Int32 × AH)) (r : Bool × Nat × CL) : Prop :=
  ∃ M' L', x = some (bI r.1, enc z M') ∧ Fk0 k M M' ∧ M'.1 k 7 = nI r.2.1 ∧ SR M' k L' ∧ L'.length ≤ r.2.1 ∧ (r.1 = true → HC L' (apS r.2.2 S) ∧ M'.1 k 0 = nI (apH r.2.2 h))
section
variable {z : Nat} {k n : Nat} {tx : Nat → Nat} (N : Nat)
theorem c_cl79 (hN : 300 ≤ N) (hk : isH k) {M : PM} {a h : Nat} {L : List Nat} {S : SF} (hC : CS M k n tx a L) (hH : HC L S) (h0 : M.1 k 0 = nI h) (kd s : Nat) (hkd : kd = 0 ∧ s = 1 ∨ kd = 1 ∧ s = 2) : CC z k M S h (bX5_takeClause_79 N (enc z M) (z + k) (nI (1 - kd)) (z + k) s) (pCl0 tx n kd (pWord tx n (wl s) a)) := by
  obtain ⟨hT, ha, han, hS, hL⟩ := hC
  have hn := hT.2.1
  have hs5 : s < 5 := by omega
  have hw := wl_lt s hs5
  have wpg := pWord_pg tx n (wl s) a (by rcases hkd with ⟨_, rfl⟩ | ⟨_, rfl⟩ <;> decide) han
  have e1 := c_word (z := z) N (by omega) hk s hs5 hT ha han
  generalize hw' : pWord tx n (wl s) a = w at e1 wpg
  rw [bX5_takeClause_79]
  simp only [lit]
  have hF1 : Fk0 k M (setI M k 7 (nI w.2)) := Fk0_set (by omega) _
  have hT1 := PT_set hk hT (j := 7) (by omega) (nI w.2)
  have hS1 := SR_set hS (j := 7) (by omega) (nI w.2)
  unfold pCl0
  cases hw1 : w.1 with
  | false =>
    rw [hw1] at e1
    rw [if_neg (by decide)]
    refine ⟨_, L, ?_, hF1, setI_eq, hS1, by show _ ≤ w.2; omega, fun q => by cases q⟩
    simp (disch := omega) only [↓znm_, ↓reduceIte, rn0, rn1, rbI, nle_t, nle_f, nlt_t, nlt_f, neq_t, neq_f, x_add, x_mul, x_sub, x_div, ↓x_rem, x_remN, setI_eq, setI_ne, setI_nk, setI_2, bn0, bn1, reduceCtorEq, ↓HOb hk, ↓HG0b hk, ↓HG2b hk, ↓HG4b hk, ↓HG6b hk, ↓HG7b hk, ↓HG8b hk, ↓HR1b hk, ↓HR3b hk, ↓HR5b hk, ↓HP0b hk, ↓HP2b hk, ↓HP4b hk, ↓HP6b hk, ↓HP7b hk, ↓HP8b hk, ↓HAb hk, ↓HSb hk, ↓HNb hk, ↓TAb hk, ↓TSb hk, ↓TNb hk, ↓zc e1]
    rfl
  | true =>
    rw [hw1] at e1
    rw [if_pos rfl]
    have e2 := c_num (z := z) N (by omega) hk hT1 (a := w.2) setI_eq wpg.2.1
    have qpg := pNum_pg tx n w.2 wpg.2.1
    have qlt := pNum_lt hT w.2
    generalize hq' : pNum tx n w.2 = q at e2 qpg qlt
    rw [setI87, setI_twice] at e2
    have hF2 : Fk0 k M (setI (setI M k 8 (nI q.2.2)) k 7 (nI q.2.1)) := Fk0_trans (Fk0_set (by omega) _) (Fk0_set (by omega) _)
    have hT2 := PT_set hk (PT_set hk hT (j := 8) (by omega) (nI q.2.2)) (j := 7) (by omega) (nI q.2.1)
    have hS2 := SR_set (SR_set hS (j := 8) (by omega) (nI q.2.2)) (j := 7) (by omega) (nI q.2.1)
    unfold pCl1
    cases hq1 : q.1 with
    | false =>
      rw [hq1] at e2
      rw [if_neg (by decide)]
      refine ⟨_, L, ?_, hF2, setI_eq, hS2, by show _ ≤ q.2.1; omega, fun q => by cases q⟩
      simp (disch := omega) only [↓znm_, ↓reduceIte, rn0, rn1, rbI, nle_t, nle_f, nlt_t, nlt_f, neq_t, neq_f, x_add, x_mul, x_sub, x_div, ↓x_rem, x_remN, setI_eq, setI_ne, setI_nk, setI_2, bn0, bn1, reduceCtorEq, ↓HOb hk, ↓HG0b hk, ↓HG2b hk, ↓HG4b hk, ↓HG6b hk, ↓HG7b hk, ↓HG8b hk, ↓HR1b hk, ↓HR3b hk, ↓HR5b hk, ↓HP0b hk, ↓HP2b hk, ↓HP4b hk, ↓HP6b hk, ↓HP7b hk, ↓HP8b hk, ↓HAb hk, ↓HSb hk, ↓HNb hk, ↓TAb hk, ↓TSb hk, ↓TNb hk, ↓zc e1, ↓zc e2]
      rfl
    | true =>
      rw [hq1] at e2
      rw [if_pos rfl]
      have spg := pWord_pg tx n (wl 3) q.2.1 (by decide) qpg.2.1
      have e3 := c_word (z := z) N (by omega) hk 3 (by omega) hT2 setI_eq qpg.2.1
      generalize hs' : pWord tx n (wl 3) q.2.1 = s3 at e3 spg
      rw [setI_twice] at e3
      have hF3 : Fk0 k M (setI (setI M k 8 (nI q.2.2)) k 7 (nI s3.2)) := Fk0_trans (Fk0_set (by omega) _) (Fk0_set (by omega) _)
      have hT3 := PT_set hk (PT_set hk hT (j := 8) (by omega) (nI q.2.2)) (j := 7) (by omega) (nI s3.2)
      have hS3 := SR_set (SR_set hS (j := 8) (by omega) (nI q.2.2)) (j := 7) (by omega) (nI s3.2)
      have hq8 : (setI (setI M k 8 (nI q.2.2)) k 7 (nI q.2.1)).1 k 8 = nI q.2.2 := by rw [setI_ne (by omega)]; exact setI_eq
      rw [show pWord tx n [32] q.2.1 = s3 from hs']
      unfold pCl2
      cases hs1 : s3.1 with
      | false =>
        rw [hs1] at e3
        rw [if_neg (by decide)]
        refine ⟨_, L, ?_, hF3, setI_eq, hS3, by show _ ≤ s3.2; omega, fun q => by cases q⟩
        simp (disch := omega) only [↓znm_, ↓reduceIte, rn0, rn1, rbI, nle_t, nle_f, nlt_t, nlt_f, neq_t, neq_f, x_add, x_mul, x_sub, x_div, ↓x_rem, x_remN, setI_eq, setI_ne, setI_nk, setI_2, bn0, bn1, reduceCtorEq, ↓HOb hk, ↓HG0b hk, ↓HG2b hk, ↓HG4b hk, ↓HG6b hk, ↓HG7b hk, ↓HG8b hk, ↓HR1b hk, ↓HR3b hk, ↓HR5b hk, ↓HP0b hk, ↓HP2b hk, ↓HP4b hk, ↓HP6b hk, ↓HP7b hk, ↓HP8b hk, ↓HAb hk, ↓HSb hk, ↓HNb hk, ↓TAb hk, ↓TSb hk, ↓TNb hk, ↓zc e1, ↓zc e2, hq8, ↓zc e3]
        rfl
      | true =>
        rw [hs1] at e3
        rw [if_pos rfl]
        obtain ⟨M4, c4, f1, f2, f3, f4, f5, f6⟩ := c_or N hN hk (pBoth_pg (pFac_pg tx n 4)) (by omega) (c_and N hN hk (pFac_pg tx n 4) (by omega) (c_one (z := z) N hN hk 4 (by omega) 6 (by omega))) _ s3.2 L ⟨hT3, setI_eq, spg.2.1, hS3, by omega⟩
        have epg := pAny_pg (tx := tx) (pFac_pg tx n 4) s3.2 spg.2.1
        have f1 : gX5_takeEither N 6 (enc z (setI (setI M k 8 (nI q.2.2)) k 7 (nI s3.2))) (z + k) (nI 0) = some (bI (pAny tx n (pFac tx n 4) s3.2).1, enc z M4) := f1
        have f3 : M4.1 k 7 = nI (pAny tx n (pFac tx n 4) s3.2).2.1 := f3
        have f5 : s3.2 + c4.length ≤ (pAny tx n (pFac tx n 4) s3.2).2.1 := f5
        have f6 : (pAny tx n (pFac tx n 4) s3.2).1 = true → Cod c4 (pAny tx n (pFac tx n 4) s3.2).2.2 _ := f6
        unfold pExp
        generalize he' : pAny tx n (pFac tx n 4) s3.2 = e at f1 f3 f5 f6 epg
        have hF4 := Fk0_trans hF3 (Fk0_of f2)
        cases he1 : e.1 with
        | false =>
          rw [he1] at f1
          refine ⟨M4, L ++ c4, ?_, hF4, f3, f4, by rw [List.length_append]; show _ ≤ e.2.1; omega, fun q => by cases q⟩
          simp (disch := omega) only [↓znm_, ↓reduceIte, rn0, rn1, rbI, nle_t, nle_f, nlt_t, nlt_f, neq_t, neq_f, x_add, x_mul, x_sub, x_div, ↓x_rem, x_remN, setI_eq, setI_ne, setI_nk, setI_2, bn0, bn1, reduceCtorEq, ↓HOb hk, ↓HG0b hk, ↓HG2b hk, ↓HG4b hk, ↓HG6b hk, ↓HG7b hk, ↓HG8b hk, ↓HR1b hk, ↓HR3b hk, ↓HR5b hk, ↓HP0b hk, ↓HP2b hk, ↓HP4b hk, ↓HP6b hk, ↓HP7b hk, ↓HP8b hk, ↓HAb hk, ↓HSb hk, ↓HNb hk, ↓TAb hk, ↓TSb hk, ↓TNb hk, ↓zc e1, ↓zc e2, hq8, ↓zc e3, ↓zc f1]
          rfl
        | true =>
          rw [he1] at f1
          have wl1 := wpg.2.2 hw1
          have sl1 := spg.2.2 hs1
          have hwl : 1 ≤ (wl s).length := by rcases hkd with ⟨_, rfl⟩ | ⟨_, rfl⟩ <;> decide
          have hlen : (L ++ c4).length < 100 := by
            rw [List.length_append]; have := epg.2.1; have := qpg.2.2 hq1; omega
          have e5 := c_add (z := z) N hk f4 hlen (22 + kd) q.2.2
          have h0' : M4.1 k 0 = nI h := by rw [f2.2 k 0 (by omega) (by omega), setI_ne (by omega), setI_ne (by omega)]; exact h0
          refine ⟨addM M4 k (L ++ c4) ((22 + kd) * 256 + q.2.2), L ++ (c4 ++ [(22 + kd) * 256 + q.2.2]), ?_, Fk0_trans hF4 (Fk0_of add_F), by rw [add_7]; exact f3, by rw [← List.append_assoc]; exact add_SR f4 hlen (by omega), by rw [List.length_append, List.length_append]; show _ + (_ + 1) ≤ e.2.1; omega, fun _ => ⟨HC_cl hH (f6 he1) (by omega) (by omega), ?_⟩⟩
          · rcases hkd with ⟨rfl, rfl⟩ | ⟨rfl, rfl⟩
            · simp (disch := omega) only [↓znm_, ↓reduceIte, rn0, rn1, rbI, nle_t, nle_f, nlt_t, nlt_f, neq_t, neq_f, x_add, x_mul, x_sub, x_div, ↓x_rem, x_remN, setI_eq, setI_ne, setI_nk, setI_2, bn0, bn1, reduceCtorEq, ↓HOb hk, ↓HG0b hk, ↓HG2b hk, ↓HG4b hk, ↓HG6b hk, ↓HG7b hk, ↓HG8b hk, ↓HR1b hk, ↓HR3b hk, ↓HR5b hk, ↓HP0b hk, ↓HP2b hk, ↓HP4b hk, ↓HP6b hk, ↓HP7b hk, ↓HP8b hk, ↓HAb hk, ↓HSb hk, ↓HNb hk, ↓TAb hk, ↓TSb hk, ↓TNb hk, ↓zc e1, ↓zc e2, hq8, ↓zc e3, ↓zc f1, bX5_takeClause_128, lit, ↓zc e5]
              rfl
            · simp (disch := omega) only [↓znm_, ↓reduceIte, rn0, rn1, rbI, nle_t, nle_f, nlt_t, nlt_f, neq_t, neq_f, x_add, x_mul, x_sub, x_div, ↓x_rem, x_remN, setI_eq, setI_ne, setI_nk, setI_2, bn0, bn1, reduceCtorEq, ↓HOb hk, ↓HG0b hk, ↓HG2b hk, ↓HG4b hk, ↓HG6b hk, ↓HG7b hk, ↓HG8b hk, ↓HR1b hk, ↓HR3b hk, ↓HR5b hk, ↓HP0b hk, ↓HP2b hk, ↓HP4b hk, ↓HP6b hk, ↓HP7b hk, ↓HP8b hk, ↓HAb hk, ↓HSb hk, ↓HNb hk, ↓TAb hk, ↓TSb hk, ↓TNb hk, ↓zc e1, ↓zc e2, hq8, ↓zc e3, ↓zc f1, bX5_takeClause_128, lit, ↓zc e5]
              rfl
          · have : apH (kd, q.2.2, e.2.2) h = h := by unfold apH; rw [if_neg (by show ¬ kd = 2; omega)]
            rw [this]
            show (setI (setI M4 (k + 1) _ _) k 2 _).1 k 0 = _
            rw [setI_ne (by omega), setI_nk (by omega)]; exact h0'
theorem c_cl (hN : 300 ≤ N) (hk : isH k) {M : PM} {a h : Nat} {L : List Nat} {S : SF} (hC : CS M k n tx a L) (hH : HC L S) (h0 : M.1 k 0 = nI h) : CC z k M S h (fX5_takeClause N (enc z M) (z + k)) (pCl tx n a) := by
  have hC0 := hC
  obtain ⟨hT, ha, han, hS, hL⟩ := hC
  have e1 := c_sign (z := z) N hk hT ha han
  have s104 := sg_eq hT (a := a) (c := 104) (by omega)
  have s107 := sg_eq hT (a := a) (c := 107) (by omega)
  rw [fX5_takeClause, pCl]
  simp only [lit]
  by_cases q104 : cu tx n a = 104
  · rw [if_pos q104]
    have wpg := pWord_pg tx n (wl 0) a (by decide) han
    have e2 := c_word (z := z) N (by omega) hk 0 (by omega) hT ha han
    rw [show pWord tx n [104, 111, 117, 114, 115, 32] a = pWord tx n (wl 0) a from rfl]
    generalize hw' : pWord tx n (wl 0) a = w at e2 wpg
    have hF1 : Fk0 k M (setI M k 7 (nI w.2)) := Fk0_set (by omega) _
    have hT1 := PT_set hk hT (j := 7) (by omega) (nI w.2)
    have hS1 := SR_set hS (j := 7) (by omega) (nI w.2)
    unfold pHr0
    cases hw1 : w.1 with
    | false =>
      rw [hw1] at e2
      rw [if_neg (by decide)]
      refine ⟨setI (setI M k 7 (nI w.2)) k 0 (nI h), L, ?_, Fk0_trans hF1 (Fk0_set (by omega) _), by rw [setI_ne (by omega)]; exact setI_eq, SR_set hS1 (by omega) _, by show _ ≤ w.2; omega, fun q => by cases q⟩
      simp (disch := omega) only [↓znm_, ↓reduceIte, rn0, rn1, rbI, nle_t, nle_f, nlt_t, nlt_f, neq_t, neq_f, x_add, x_mul, x_sub, x_div, ↓x_rem, x_remN, setI_eq, setI_ne, setI_nk, setI_2, bn0, bn1, reduceCtorEq, ↓HOb hk, ↓HG0b hk, ↓HG2b hk, ↓HG4b hk, ↓HG6b hk, ↓HG7b hk, ↓HG8b hk, ↓HR1b hk, ↓HR3b hk, ↓HR5b hk, ↓HP0b hk, ↓HP2b hk, ↓HP4b hk, ↓HP6b hk, ↓HP7b hk, ↓HP8b hk, ↓HAb hk, ↓HSb hk, ↓HNb hk, ↓TAb hk, ↓TSb hk, ↓TNb hk, ↓zc e1, s104, q104, ↓zc e2, bX5_takeClause_29, bX5_takeClause_30, lit, h0]
      rfl
    | true =>
      rw [hw1] at e2
      rw [if_pos rfl]
      have e3 := c_num (z := z) N (by omega) hk hT1 (a := w.2) setI_eq wpg.2.1
      have qpg := pNum_pg tx n w.2 wpg.2.1
      generalize hq' : pNum tx n w.2 = q at e3 qpg
      rw [setI87, setI_twice] at e3
      have hF2 : Fk0 k M (setI (setI M k 8 (nI q.2.2)) k 7 (nI q.2.1)) := Fk0_trans (Fk0_set (by omega) _) (Fk0_set (by omega) _)
      have hS2 := SR_set (SR_set hS (j := 8) (by omega) (nI q.2.2)) (j := 7) (by omega) (nI q.2.1)
      unfold pHr1
      cases hq1 : q.1 with
      | false =>
        rw [hq1] at e3
        refine ⟨setI (setI (setI M k 8 (nI q.2.2)) k 7 (nI q.2.1)) k 0 (nI h), L, ?_, Fk0_trans hF2 (Fk0_set (by omega) _), by rw [setI_ne (by omega)]; exact setI_eq, SR_set hS2 (by omega) _, by show _ ≤ q.2.1; omega, fun q => by cases q⟩
        simp (disch := omega) only [↓znm_, ↓reduceIte, rn0, rn1, rbI, nle_t, nle_f, nlt_t, nlt_f, neq_t, neq_f, x_add, x_mul, x_sub, x_div, ↓x_rem, x_remN, setI_eq, setI_ne, setI_nk, setI_2, bn0, bn1, reduceCtorEq, ↓HOb hk, ↓HG0b hk, ↓HG2b hk, ↓HG4b hk, ↓HG6b hk, ↓HG7b hk, ↓HG8b hk, ↓HR1b hk, ↓HR3b hk, ↓HR5b hk, ↓HP0b hk, ↓HP2b hk, ↓HP4b hk, ↓HP6b hk, ↓HP7b hk, ↓HP8b hk, ↓HAb hk, ↓HSb hk, ↓HNb hk, ↓TAb hk, ↓TSb hk, ↓TNb hk, ↓zc e1, s104, q104, ↓zc e2, ↓zc e3, bX5_takeClause_29, bX5_takeClause_30, lit, h0]
        rfl
      | true =>
        rw [hq1] at e3
        refine ⟨setI (setI (setI M k 8 (nI q.2.2)) k 7 (nI q.2.1)) k 0 (nI q.2.2), L, ?_, Fk0_trans hF2 (Fk0_set (by omega) _), by rw [setI_ne (by omega)]; exact setI_eq, SR_set hS2 (by omega) _, by show _ ≤ q.2.1; omega, fun _ => ⟨HC_hr hH, setI_eq⟩⟩
        simp (disch := omega) only [↓znm_, ↓reduceIte, rn0, rn1, rbI, nle_t, nle_f, nlt_t, nlt_f, neq_t, neq_f, x_add, x_mul, x_sub, x_div, ↓x_rem, x_remN, setI_eq, setI_ne, setI_nk, setI_2, bn0, bn1, reduceCtorEq, ↓HOb hk, ↓HG0b hk, ↓HG2b hk, ↓HG4b hk, ↓HG6b hk, ↓HG7b hk, ↓HG8b hk, ↓HR1b hk, ↓HR3b hk, ↓HR5b hk, ↓HP0b hk, ↓HP2b hk, ↓HP4b hk, ↓HP6b hk, ↓HP7b hk, ↓HP8b hk, ↓HAb hk, ↓HSb hk, ↓HNb hk, ↓TAb hk, ↓TSb hk, ↓TNb hk, ↓zc e1, s104, q104, ↓zc e2, ↓zc e3, bX5_takeClause_29, bX5_takeClause_30, lit, h0]
        rfl
  · rw [if_neg q104]
    by_cases q107 : cu tx n a = 107
    · rw [if_pos q107]
      obtain ⟨M', L', f1, f2⟩ := c_cl79 (z := z) N hN hk hC0 hH h0 0 1 (by omega)
      refine ⟨M', L', ?_, f2⟩
      simp (disch := omega) only [↓znm_, ↓reduceIte, rn0, rn1, rbI, nle_t, nle_f, nlt_t, nlt_f, neq_t, neq_f, x_add, x_mul, x_sub, x_div, ↓x_rem, x_remN, setI_eq, setI_ne, setI_nk, setI_2, bn0, bn1, reduceCtorEq, ↓HOb hk, ↓HG0b hk, ↓HG2b hk, ↓HG4b hk, ↓HG6b hk, ↓HG7b hk, ↓HG8b hk, ↓HR1b hk, ↓HR3b hk, ↓HR5b hk, ↓HP0b hk, ↓HP2b hk, ↓HP4b hk, ↓HP6b hk, ↓HP7b hk, ↓HP8b hk, ↓HAb hk, ↓HSb hk, ↓HNb hk, ↓TAb hk, ↓TSb hk, ↓TNb hk, ↓zc e1, s104, q104, s107, q107, bX5_takeClause_66, lit]
      exact f1
    · rw [if_neg q107]
      obtain ⟨M', L', f1, f2⟩ := c_cl79 (z := z) N hN hk hC0 hH h0 1 2 (by omega)
      refine ⟨M', L', ?_, f2⟩
      simp (disch := omega) only [↓znm_, ↓reduceIte, rn0, rn1, rbI, nle_t, nle_f, nlt_t, nlt_f, neq_t, neq_f, x_add, x_mul, x_sub, x_div, ↓x_rem, x_remN, setI_eq, setI_ne, setI_nk, setI_2, bn0, bn1, reduceCtorEq, ↓HOb hk, ↓HG0b hk, ↓HG2b hk, ↓HG4b hk, ↓HG6b hk, ↓HG7b hk, ↓HG8b hk, ↓HR1b hk, ↓HR3b hk, ↓HR5b hk, ↓HP0b hk, ↓HP2b hk, ↓HP4b hk, ↓HP6b hk, ↓HP7b hk, ↓HP8b hk, ↓HAb hk, ↓HSb hk, ↓HNb hk, ↓TAb hk, ↓TSb hk, ↓TNb hk, ↓zc e1, s104, q104, s107, q107, bX5_takeClause_66, lit]
      exact f1
end
