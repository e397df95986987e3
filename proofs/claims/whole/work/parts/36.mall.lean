def FC (M M' : PM) : Prop := M'.2 = M.2 ∧ ∀ c j, ¬ (c = 126 ∧ 11 ≤ j ∧ j ≤ 15) → M'.1 c j = M.1 c j
theorem FC_of {M M' : PM} (h : FE M M') : FC M M' := ⟨h.1, fun c j q => h.2 c j (by omega)⟩
theorem FC_trans {M M' M'' : PM} (h : FC M M') (h' : FC M' M'') : FC M M'' := ⟨h'.1.trans h.1, fun c j a => (h'.2 c j a).trans (h.2 c j a)⟩
theorem FC_set {M : PM} {j : Nat} (hj : 11 ≤ j ∧ j ≤ 15) (v : Int32) : FC M (setI M 126 j v) := ⟨rfl, fun c i h => by rw [setI_at, if_neg (fun q => h ⟨q.1, by rw [q.2]; exact hj⟩)]⟩
theorem MX_C {M M' : PM} {n : Nat} {tx : Nat → Nat} (h : MX M n tx) (hF : FC M M') : MX M' n tx := MX_E h (fun c j q => hF.2 c j (by omega))
section
variable {z : Nat} {n : Nat} {tx : Nat → Nat} (N : Nat)
theorem wr32 (a : Nat) (ok : Bool) : wr tx n [32] a ok = (ok && decide (cu tx n a = 32), if (ok && decide (cu tx n a = 32)) = true then a + 1 else a) := by
  rw [wr_cons]
  unfold wr
  cases hb : (ok && decide (cu tx n a = 32)) <;> rfl
theorem wr_app (l1 l2 : List Nat) (a : Nat) (ok : Bool) : wr tx n (l1 ++ l2) a ok = wr tx n l2 (wr tx n l1 a ok).2 (wr tx n l1 a ok).1 := by
  unfold wr
  cases ok with
  | false => rfl
  | true =>
    rw [if_pos rfl, if_pos rfl, pWord_app]
def C85 (z : Nat) (M : PM) (nm : Nat → Int32) (x : Option (Unit × AH)) (ok : Bool) (b : Nat) (c : CL) : Prop :=
  ∃ M', x = some ((), enc z M') ∧ FC M M' ∧ M'.1 126 11 = nI b ∧ M'.1 126 12 = bI ok ∧ (ok = true → (∀ h, M.1 126 15 = nI h → M'.1 126 15 = nI (apH c h)) ∧ ∀ S : SF, M.1 126 14 = S nm → M'.1 126 14 = apS c S nm)
theorem m_cl85h {nm : Nat → Int32} {M : PM} {a : Nat} {ok : Bool} (hS : MS M n tx a ok) : C85 z M nm (bX12_clause_85 N (enc z M) (z + 126) (nI 2)) (pHr0 tx n (wr tx n [32] a ok)).1 (pHr0 tx n (wr tx n [32] a ok)).2.1 (pHr0 tx n (wr tx n [32] a ok)).2.2 := by
  have e1 := m_takes (z := z) N hS (c := 32) (by omega)
  have h1 := tkM_MS hS (c := 32) (by omega)
  rw [wr32]
  generalize hok1 : (ok && decide (cu tx n a = 32)) = ok1 at e1 h1
  generalize ha1 : (if ok1 = true then a + 1 else a) = a1 at h1
  have e2 := m_number (z := z) N h1
  have h2 := nuM_MS h1
  have hq : pHr0 tx n (ok1, a1) = ((nuQ tx n a1 ok1).1, (nuQ tx n a1 ok1).2.1, 2, (nuQ tx n a1 ok1).2.2, fun _ => false) := by
    unfold pHr0 nuQ pHr1
    cases ok1 <;> rfl
  rw [hq]
  refine ⟨setI (nuM (tkM M a ok1) (nuQ tx n a1 ok1)) 126 15 (nI (nuQ tx n a1 ok1).2.2), ?_, FC_trans (FC_of (FE_trans tkM_E nuM_E)) (FC_set (by omega) _), by rw [setI_ne (by omega)]; exact h2.2.1, by rw [setI_ne (by omega)]; exact h2.2.2.2, fun _ => ⟨fun h _ => setI_eq, fun S hs => ?_⟩⟩
  · rw [bX12_clause_85]
    simp only [lit]
    simp (disch := omega) only [↓znm_, ↓reduceIte, rn0, rn1, rbI, nle_t, nle_f, nlt_t, nlt_f, neq_t, neq_f, x_add, x_mul, x_sub, x_div, ↓x_rem, x_remN, setI_eq, setI_ne, setI_nk, setI_2, bn0, bn1, reduceCtorEq, ↓O126b, ↓G126_0b, ↓G126_1b, ↓G126_2b, ↓G126_3b, ↓P126_3b, ↓G126_4b, ↓G126_5b, ↓P126_5b, ↓G126_6b, ↓G126_7b, ↓G126_8b, ↓P126_8b, ↓G126_9b, ↓G126_10b, ↓P126_10b, ↓G126_11b, ↓P126_11b, ↓G126_12b, ↓P126_12b, ↓G126_13b, ↓P126_13b, ↓G126_14b, ↓P126_14b, ↓G126_15b, ↓P126_15b, ↓G126_16b, ↓G126_17b, ↓G126_18b, ↓G126_19b, ↓G126_20b, ↓G126_21b, ↓G126_22b, ↓G126_23b, ↓P126_23b, ↓G126_24b, ↓G126_25b, ↓G126_26b, ↓G126_27b, ↓A127b, ↓A127m, ↓A127p, ↓A127mp, ↓A127pm, ↓A127pmp, ↓A127mpp, ↓A127pp, ↓S127b, ↓S127m, ↓S127p, ↓S127mp, ↓S127pm, ↓S127pmp, ↓S127mpp, ↓S127pp, ↓N127b, ↓A128b, ↓S128b, ↓N128b, ↓A129b, ↓S129b, ↓N129b, ↓A130b, ↓S130b, ↓N130b, ↓A131b, ↓A131m, ↓A131p, ↓A131mp, ↓A131pm, ↓A131pmp, ↓A131mpp, ↓A131pp, ↓S131b, ↓S131m, ↓S131p, ↓S131mp, ↓S131pm, ↓S131pmp, ↓S131mpp, ↓S131pp, ↓N131b, ↓A132b, ↓S132b, ↓N132b, ↓A133b, ↓S133b, ↓N133b, ↓A134b, ↓S134b, ↓N134b, ↓A135b, ↓S135b, ↓N135b, ↓A136b, ↓S136b, ↓N136b, ↓A137b, ↓A137m, ↓A137p, ↓A137mp, ↓A137pm, ↓A137pmp, ↓A137mpp, ↓A137pp, ↓S137b, ↓S137m, ↓S137p, ↓S137mp, ↓S137pm, ↓S137pmp, ↓S137mpp, ↓S137pp, ↓N137b, ↓A138b, ↓S138b, ↓N138b, ↓A139b, ↓A139m, ↓A139p, ↓A139mp, ↓A139pm, ↓A139pmp, ↓A139mpp, ↓A139pp, ↓S139b, ↓S139m, ↓S139p, ↓S139mp, ↓S139pm, ↓S139pmp, ↓S139mpp, ↓S139pp, ↓N139b, ↓A140b, ↓S140b, ↓N140b, ↓A141b, ↓S141b, ↓N141b, ↓A142b, ↓S142b, ↓N142b, ↓A143b, ↓A143m, ↓A143p, ↓A143mp, ↓A143pm, ↓A143pmp, ↓A143mpp, ↓A143pp, ↓S143b, ↓S143m, ↓S143p, ↓S143mp, ↓S143pm, ↓S143pmp, ↓S143mpp, ↓S143pp, ↓A144b, ↓S144b, ↓P126_3n, ↓P126_12n, ↓P126_12o, ↓zc e1, ↓zc e2]
  · rw [setI_ne (by omega), nuM_E.2 126 14 (by omega), tkM_E.2 126 14 (by omega), hs]; rfl
theorem m_cl85e (hN : 300 ≤ N) {nm : Nat → Int32} {M : PM} {a w : Nat} {ok : Bool} (hS : MS M n tx a ok) (hnm : ∀ j, j < 6 → M.1 134 j = nm j) (hw : w < 2) : C85 z M nm (bX12_clause_85 N (enc z M) (z + 126) (nI w)) (pCl0 tx n w (wr tx n [32] a ok)).1 (pCl0 tx n w (wr tx n [32] a ok)).2.1 (pCl0 tx n w (wr tx n [32] a ok)).2.2 := by
  have e1 := m_takes (z := z) N hS (c := 32) (by omega)
  have h1 := tkM_MS hS (c := 32) (by omega)
  rw [wr32]
  generalize hok1 : (ok && decide (cu tx n a = 32)) = ok1 at e1 h1
  generalize ha1 : (if ok1 = true then a + 1 else a) = a1 at h1
  have e2 := m_number (z := z) N h1
  have h2 := nuM_MS h1
  have hE2 : FE M (nuM (tkM M a ok1) (nuQ tx n a1 ok1)) := FE_trans tkM_E nuM_E
  generalize hM2 : nuM (tkM M a ok1) (nuQ tx n a1 ok1) = M2 at e2 h2 hE2
  generalize hq : nuQ tx n a1 ok1 = q at e2 h2
  have e3 := m_takes (z := z) N h2 (c := 32) (by omega)
  have h3 := tkM_MS h2 (c := 32) (by omega)
  generalize hok3 : (q.1 && decide (cu tx n q.2.1 = 32)) = ok3 at e3 h3
  generalize ha3 : (if ok3 = true then q.2.1 + 1 else q.2.1) = a3 at h3
  have hE3 : FE M (setI (tkM M2 q.2.1 ok3) 126 13 (nI 0)) := FE_trans hE2 (FE_trans tkM_E (FE_set (by omega) _))
  have h4 : MS (setI (tkM M2 q.2.1 ok3) 126 13 (nI 0)) n tx a3 ok3 := ⟨MX_F hS.1 hE3, by rw [setI_ne (by omega)]; exact h3.2.1, h3.2.2.1, by rw [setI_ne (by omega)]; exact h3.2.2.2⟩
  obtain ⟨M5, b5, g1, g2, g3, g4, g5, g6⟩ := m_or (z := z) N hN (pBoth_pg (pFac_pg tx n 4)) (m_and N hN (pFac_pg tx n 4) (m_fac (z := z) (nm := nm) N hN 4 (by omega) 6 (by omega))) _ a3 ok3 h4 (fun j hj => by rw [hE3.2 134 j (by omega)]; exact hnm j hj) setI_eq
  have g1 : gX12_any N 6 (enc z (setI (tkM M2 q.2.1 ok3) 126 13 (nI 0))) (z + 126) = some (bI b5, enc z M5) := g1
  have hE5 := FE_trans hE3 g2
  have hsp : pCl0 tx n w (ok1, a1) = (pCl2 tx n w q.2.2 (ok3, a3)) ∨ q.1 = false ∧ (pCl0 tx n w (ok1, a1)).1 = false ∧ (pCl0 tx n w (ok1, a1)).2.1 = q.2.1 ∧ ok3 = false ∧ a3 = q.2.1 := by
    subst hq
    unfold pCl0
    cases ok1 with
    | false =>
      right
      refine ⟨rfl, rfl, rfl, ?_, ?_⟩
      · rw [← hok3]; rfl
      · rw [← ha3, ← hok3]; rfl
    | true =>
      have : nuQ tx n a1 true = pNum tx n a1 := rfl
      rw [this] at hok3 ha3 ⊢
      rw [if_pos rfl]
      unfold pCl1
      cases hp : (pNum tx n a1).1 with
      | false =>
        right
        rw [hp] at hok3
        refine ⟨rfl, rfl, rfl, ?_, ?_⟩
        · rw [← hok3]; rfl
        · rw [← ha3, ← hok3]; rfl
      | true =>
        left
        rw [if_pos rfl]
        have e := wr32 (tx := tx) (n := n) (pNum tx n a1).2.1 true
        rw [hp] at hok3
        rw [hok3, ha3] at e
        rw [← e]
        rfl
  have hfin : ∀ sm : Int32, M.1 126 14 = sm → ∃ M', bX12_clause_85 N (enc z M) (z + 126) (nI w) = some ((), enc z M') ∧ M' = setI M5 126 14 (sm + (if b5 = true then (if w = 0 then nI q.2.2 else -nI q.2.2) else nI 0)) := by
    intro sm hsm
    have h14 : M5.1 126 14 = sm := by rw [hE5.2 126 14 (by omega)]; exact hsm
    refine ⟨_, ?_, rfl⟩
    rw [bX12_clause_85]
    simp only [lit]
    cases b5 with
    | false => simp (disch := omega) only [↓znm_, ↓reduceIte, rn0, rn1, rbI, nle_t, nle_f, nlt_t, nlt_f, neq_t, neq_f, x_add, x_mul, x_sub, x_div, ↓x_rem, x_remN, setI_eq, setI_ne, setI_nk, setI_2, bn0, bn1, reduceCtorEq, ↓O126b, ↓G126_0b, ↓G126_1b, ↓G126_2b, ↓G126_3b, ↓P126_3b, ↓G126_4b, ↓G126_5b, ↓P126_5b, ↓G126_6b, ↓G126_7b, ↓G126_8b, ↓P126_8b, ↓G126_9b, ↓G126_10b, ↓P126_10b, ↓G126_11b, ↓P126_11b, ↓G126_12b, ↓P126_12b, ↓G126_13b, ↓P126_13b, ↓G126_14b, ↓P126_14b, ↓G126_15b, ↓P126_15b, ↓G126_16b, ↓G126_17b, ↓G126_18b, ↓G126_19b, ↓G126_20b, ↓G126_21b, ↓G126_22b, ↓G126_23b, ↓P126_23b, ↓G126_24b, ↓G126_25b, ↓G126_26b, ↓G126_27b, ↓A127b, ↓A127m, ↓A127p, ↓A127mp, ↓A127pm, ↓A127pmp, ↓A127mpp, ↓A127pp, ↓S127b, ↓S127m, ↓S127p, ↓S127mp, ↓S127pm, ↓S127pmp, ↓S127mpp, ↓S127pp, ↓N127b, ↓A128b, ↓S128b, ↓N128b, ↓A129b, ↓S129b, ↓N129b, ↓A130b, ↓S130b, ↓N130b, ↓A131b, ↓A131m, ↓A131p, ↓A131mp, ↓A131pm, ↓A131pmp, ↓A131mpp, ↓A131pp, ↓S131b, ↓S131m, ↓S131p, ↓S131mp, ↓S131pm, ↓S131pmp, ↓S131mpp, ↓S131pp, ↓N131b, ↓A132b, ↓S132b, ↓N132b, ↓A133b, ↓S133b, ↓N133b, ↓A134b, ↓S134b, ↓N134b, ↓A135b, ↓S135b, ↓N135b, ↓A136b, ↓S136b, ↓N136b, ↓A137b, ↓A137m, ↓A137p, ↓A137mp, ↓A137pm, ↓A137pmp, ↓A137mpp, ↓A137pp, ↓S137b, ↓S137m, ↓S137p, ↓S137mp, ↓S137pm, ↓S137pmp, ↓S137mpp, ↓S137pp, ↓N137b, ↓A138b, ↓S138b, ↓N138b, ↓A139b, ↓A139m, ↓A139p, ↓A139mp, ↓A139pm, ↓A139pmp, ↓A139mpp, ↓A139pp, ↓S139b, ↓S139m, ↓S139p, ↓S139mp, ↓S139pm, ↓S139pmp, ↓S139mpp, ↓S139pp, ↓N139b, ↓A140b, ↓S140b, ↓N140b, ↓A141b, ↓S141b, ↓N141b, ↓A142b, ↓S142b, ↓N142b, ↓A143b, ↓A143m, ↓A143p, ↓A143mp, ↓A143pm, ↓A143pmp, ↓A143mpp, ↓A143pp, ↓S143b, ↓S143m, ↓S143p, ↓S143mp, ↓S143pm, ↓S143pmp, ↓S143mpp, ↓S143pp, ↓A144b, ↓S144b, ↓P126_3n, ↓P126_12n, ↓P126_12o, ↓zc e1, ↓zc e2, ↓zc e3, ↓zc g1, h14]
    | true =>
      rcases (show w = 0 ∨ w = 1 by omega) with rfl | rfl
      · simp (disch := omega) only [↓znm_, ↓reduceIte, rn0, rn1, rbI, nle_t, nle_f, nlt_t, nlt_f, neq_t, neq_f, x_add, x_mul, x_sub, x_div, ↓x_rem, x_remN, setI_eq, setI_ne, setI_nk, setI_2, bn0, bn1, reduceCtorEq, ↓O126b, ↓G126_0b, ↓G126_1b, ↓G126_2b, ↓G126_3b, ↓P126_3b, ↓G126_4b, ↓G126_5b, ↓P126_5b, ↓G126_6b, ↓G126_7b, ↓G126_8b, ↓P126_8b, ↓G126_9b, ↓G126_10b, ↓P126_10b, ↓G126_11b, ↓P126_11b, ↓G126_12b, ↓P126_12b, ↓G126_13b, ↓P126_13b, ↓G126_14b, ↓P126_14b, ↓G126_15b, ↓P126_15b, ↓G126_16b, ↓G126_17b, ↓G126_18b, ↓G126_19b, ↓G126_20b, ↓G126_21b, ↓G126_22b, ↓G126_23b, ↓P126_23b, ↓G126_24b, ↓G126_25b, ↓G126_26b, ↓G126_27b, ↓A127b, ↓A127m, ↓A127p, ↓A127mp, ↓A127pm, ↓A127pmp, ↓A127mpp, ↓A127pp, ↓S127b, ↓S127m, ↓S127p, ↓S127mp, ↓S127pm, ↓S127pmp, ↓S127mpp, ↓S127pp, ↓N127b, ↓A128b, ↓S128b, ↓N128b, ↓A129b, ↓S129b, ↓N129b, ↓A130b, ↓S130b, ↓N130b, ↓A131b, ↓A131m, ↓A131p, ↓A131mp, ↓A131pm, ↓A131pmp, ↓A131mpp, ↓A131pp, ↓S131b, ↓S131m, ↓S131p, ↓S131mp, ↓S131pm, ↓S131pmp, ↓S131mpp, ↓S131pp, ↓N131b, ↓A132b, ↓S132b, ↓N132b, ↓A133b, ↓S133b, ↓N133b, ↓A134b, ↓S134b, ↓N134b, ↓A135b, ↓S135b, ↓N135b, ↓A136b, ↓S136b, ↓N136b, ↓A137b, ↓A137m, ↓A137p, ↓A137mp, ↓A137pm, ↓A137pmp, ↓A137mpp, ↓A137pp, ↓S137b, ↓S137m, ↓S137p, ↓S137mp, ↓S137pm, ↓S137pmp, ↓S137mpp, ↓S137pp, ↓N137b, ↓A138b, ↓S138b, ↓N138b, ↓A139b, ↓A139m, ↓A139p, ↓A139mp, ↓A139pm, ↓A139pmp, ↓A139mpp, ↓A139pp, ↓S139b, ↓S139m, ↓S139p, ↓S139mp, ↓S139pm, ↓S139pmp, ↓S139mpp, ↓S139pp, ↓N139b, ↓A140b, ↓S140b, ↓N140b, ↓A141b, ↓S141b, ↓N141b, ↓A142b, ↓S142b, ↓N142b, ↓A143b, ↓A143m, ↓A143p, ↓A143mp, ↓A143pm, ↓A143pmp, ↓A143mpp, ↓A143pp, ↓S143b, ↓S143m, ↓S143p, ↓S143mp, ↓S143pm, ↓S143pmp, ↓S143mpp, ↓S143pp, ↓A144b, ↓S144b, ↓P126_3n, ↓P126_12n, ↓P126_12o, ↓zc e1, ↓zc e2, ↓zc e3, ↓zc g1, h14]
      · simp (disch := omega) only [↓znm_, ↓reduceIte, rn0, rn1, rbI, nle_t, nle_f, nlt_t, nlt_f, neq_t, neq_f, x_add, x_mul, x_sub, x_div, ↓x_rem, x_remN, setI_eq, setI_ne, setI_nk, setI_2, bn0, bn1, reduceCtorEq, ↓O126b, ↓G126_0b, ↓G126_1b, ↓G126_2b, ↓G126_3b, ↓P126_3b, ↓G126_4b, ↓G126_5b, ↓P126_5b, ↓G126_6b, ↓G126_7b, ↓G126_8b, ↓P126_8b, ↓G126_9b, ↓G126_10b, ↓P126_10b, ↓G126_11b, ↓P126_11b, ↓G126_12b, ↓P126_12b, ↓G126_13b, ↓P126_13b, ↓G126_14b, ↓P126_14b, ↓G126_15b, ↓P126_15b, ↓G126_16b, ↓G126_17b, ↓G126_18b, ↓G126_19b, ↓G126_20b, ↓G126_21b, ↓G126_22b, ↓G126_23b, ↓P126_23b, ↓G126_24b, ↓G126_25b, ↓G126_26b, ↓G126_27b, ↓A127b, ↓A127m, ↓A127p, ↓A127mp, ↓A127pm, ↓A127pmp, ↓A127mpp, ↓A127pp, ↓S127b, ↓S127m, ↓S127p, ↓S127mp, ↓S127pm, ↓S127pmp, ↓S127mpp, ↓S127pp, ↓N127b, ↓A128b, ↓S128b, ↓N128b, ↓A129b, ↓S129b, ↓N129b, ↓A130b, ↓S130b, ↓N130b, ↓A131b, ↓A131m, ↓A131p, ↓A131mp, ↓A131pm, ↓A131pmp, ↓A131mpp, ↓A131pp, ↓S131b, ↓S131m, ↓S131p, ↓S131mp, ↓S131pm, ↓S131pmp, ↓S131mpp, ↓S131pp, ↓N131b, ↓A132b, ↓S132b, ↓N132b, ↓A133b, ↓S133b, ↓N133b, ↓A134b, ↓S134b, ↓N134b, ↓A135b, ↓S135b, ↓N135b, ↓A136b, ↓S136b, ↓N136b, ↓A137b, ↓A137m, ↓A137p, ↓A137mp, ↓A137pm, ↓A137pmp, ↓A137mpp, ↓A137pp, ↓S137b, ↓S137m, ↓S137p, ↓S137mp, ↓S137pm, ↓S137pmp, ↓S137mpp, ↓S137pp, ↓N137b, ↓A138b, ↓S138b, ↓N138b, ↓A139b, ↓A139m, ↓A139p, ↓A139mp, ↓A139pm, ↓A139pmp, ↓A139mpp, ↓A139pp, ↓S139b, ↓S139m, ↓S139p, ↓S139mp, ↓S139pm, ↓S139pmp, ↓S139mpp, ↓S139pp, ↓N139b, ↓A140b, ↓S140b, ↓N140b, ↓A141b, ↓S141b, ↓N141b, ↓A142b, ↓S142b, ↓N142b, ↓A143b, ↓A143m, ↓A143p, ↓A143mp, ↓A143pm, ↓A143pmp, ↓A143mpp, ↓A143pp, ↓S143b, ↓S143m, ↓S143p, ↓S143mp, ↓S143pm, ↓S143pmp, ↓S143mpp, ↓S143pp, ↓A144b, ↓S144b, ↓P126_3n, ↓P126_12n, ↓P126_12o, ↓zc e1, ↓zc e2, ↓zc e3, ↓zc g1, h14]
  obtain ⟨M', k1, k2⟩ := hfin _ rfl
  refine ⟨M', k1, by rw [k2]; exact FC_trans (FC_of hE5) (FC_set (by omega) _), ?_, ?_, ?_⟩
  · rw [k2, setI_ne (by omega), g4]
    rcases hsp with e | ⟨e1, e2, e3, e4, e5⟩
    · rw [e]; unfold pCl2; cases ok3 <;> rfl
    · rw [e3, e4, gd_f]; exact congrArg nI e5
  · rw [k2, setI_ne (by omega), g5]
    rcases hsp with e | ⟨e1, e2, e3, e4, e5⟩
    · rw [e]; unfold pCl2; cases ok3 <;> rfl
    · rw [e2, e4, gd_f]
  · intro hokk
    rcases hsp with e | ⟨e1, e2, e3, e4, e5⟩
    · rw [e] at hokk ⊢
      have hok3' : ok3 = true := by
        cases ok3 with
        | false => cases hokk
        | true => rfl
      subst hok3'
      rw [gd_t] at g6
      have hokk : (pAny tx n (pFac tx n 4) a3).1 = true := hokk
      have g6 := g6 hokk
      refine ⟨fun h hh => ?_, fun S hs => ?_⟩
      · rw [k2, setI_ne (by omega), hE5.2 126 15 (by omega), hh]
        unfold apH
        rw [if_neg (by show ¬ w = 2; omega)]
      · rw [k2, setI_eq, hs]
        have ea : apS (pCl2 tx n w q.2.2 (true, a3)).2.2 S = fun nm => S nm + (if (pAny tx n (pFac tx n 4) a3).2.2 nm = true then (if w = 0 then nI q.2.2 else -nI q.2.2) else nI 0) := by
          unfold apS
          rw [if_neg (by show ¬ w = 2; omega)]
          rfl
        rw [ea, g6]
        rfl
    · rw [e2] at hokk; cases hokk
theorem m_cl (hN : 300 ≤ N) {nm : Nat → Int32} {M : PM} {a : Nat} (hS : MS M n tx a true) (hnm : ∀ j, j < 6 → M.1 134 j = nm j) : C85 z M nm (fX12_clause N (enc z M) (z + 126)) (pCl tx n a).1 (pCl tx n a).2.1 (pCl tx n a).2.2 := by
  obtain ⟨m, hm⟩ : ∃ m, N = m + 4 := ⟨N - 4, by omega⟩
  rw [fX12_clause, zfN _ _ hm]
  simp only [lit]
  rw [show zfix (fun _ _ _ _ => none) (bX12_clause_4 N) (m + 4) = bX12_clause_4 N (bX12_clause_4 N (bX12_clause_4 N (bX12_clause_4 N (zfix (fun _ _ _ _ => none) (bX12_clause_4 N) m)))) from rfl]
  rw [m_clT N hS (by omega), m_clT N hS (by omega), m_clT N hS (by omega)]
  have hsel : (if (true && decide (cu tx n a = bgs.getD 2 0)) = true then nI 2 else if (true && decide (cu tx n a = bgs.getD 1 0)) = true then nI 1 else if (true && decide (cu tx n a = bgs.getD 0 0)) = true then nI 0 else -nI 1) = if cu tx n a = 104 then nI 2 else if cu tx n a = 108 then nI 1 else if cu tx n a = 107 then nI 0 else -nI 1 := by
    show (if decide (cu tx n a = 104) = true then nI 2 else if decide (cu tx n a = 108) = true then nI 1 else if decide (cu tx n a = 107) = true then nI 0 else -nI 1) = _
    simp only [decide_eq_true_eq]
  rw [hsel, bX12_clause_4]
  simp only [lit]
  have words : ∀ w, w < 3 → ∃ M', zfix (fun _ _ _ _ => none) (bX12_clause_47 N) N (enc z M) (z + 126) (nI w) (nI 0) = bX12_clause_85 N (enc z M') (z + 126) (nI w) ∧ FE M M' ∧ MS M' n tx (wr tx n (wdl w) a true).2 (wr tx n (wdl w) a true).1 := by
    intro w hw
    have hl : (wdl w).length ≤ 5 := by
      rcases (show w = 0 ∨ w = 1 ∨ w = 2 by omega) with rfl | rfl | rfl <;> decide
    exact m_wordsL N hw N 0 M a true (by omega) (by omega) hS
  have lift : ∀ {M' : PM} {x : Option (Unit × AH)} {ok : Bool} {b : Nat} {c : CL}, FE M M' → C85 z M' nm x ok b c → C85 z M nm x ok b c := by
    intro M' x ok b c hF ⟨M2, k1, k2, k3, k4, k5⟩
    exact ⟨M2, k1, FC_trans (FC_of hF) k2, k3, k4, fun q => ⟨fun h hh => (k5 q).1 h (by rw [hF.2 126 15 (by omega)]; exact hh), fun S hs => (k5 q).2 S (by rw [hF.2 126 14 (by omega)]; exact hs)⟩⟩
  have ne1 : ∀ w, w < 3 → (nI w = -nI 1) = False := by
    have : ∀ w, w < 3 → ¬ (nI w = -nI 1) := by decide
    exact fun w hw => eq_false (this w hw)
  have f1 : (-nI 1 = (-nI 1 : Int32)) = True := eq_true rfl
  unfold pCl
  by_cases q104 : cu tx n a = 104
  · rw [if_pos q104, if_pos q104]
    obtain ⟨M', w1, w2, w3⟩ := words 2 (by omega)
    simp (disch := omega) only [↓znm_, ↓reduceIte, rn0, rn1, rbI, nle_t, nle_f, nlt_t, nlt_f, neq_t, neq_f, x_add, x_mul, x_sub, x_div, ↓x_rem, x_remN, setI_eq, setI_ne, setI_nk, setI_2, bn0, bn1, reduceCtorEq, ↓O126b, ↓G126_0b, ↓G126_1b, ↓G126_2b, ↓G126_3b, ↓P126_3b, ↓G126_4b, ↓G126_5b, ↓P126_5b, ↓G126_6b, ↓G126_7b, ↓G126_8b, ↓P126_8b, ↓G126_9b, ↓G126_10b, ↓P126_10b, ↓G126_11b, ↓P126_11b, ↓G126_12b, ↓P126_12b, ↓G126_13b, ↓P126_13b, ↓G126_14b, ↓P126_14b, ↓G126_15b, ↓P126_15b, ↓G126_16b, ↓G126_17b, ↓G126_18b, ↓G126_19b, ↓G126_20b, ↓G126_21b, ↓G126_22b, ↓G126_23b, ↓P126_23b, ↓G126_24b, ↓G126_25b, ↓G126_26b, ↓G126_27b, ↓A127b, ↓A127m, ↓A127p, ↓A127mp, ↓A127pm, ↓A127pmp, ↓A127mpp, ↓A127pp, ↓S127b, ↓S127m, ↓S127p, ↓S127mp, ↓S127pm, ↓S127pmp, ↓S127mpp, ↓S127pp, ↓N127b, ↓A128b, ↓S128b, ↓N128b, ↓A129b, ↓S129b, ↓N129b, ↓A130b, ↓S130b, ↓N130b, ↓A131b, ↓A131m, ↓A131p, ↓A131mp, ↓A131pm, ↓A131pmp, ↓A131mpp, ↓A131pp, ↓S131b, ↓S131m, ↓S131p, ↓S131mp, ↓S131pm, ↓S131pmp, ↓S131mpp, ↓S131pp, ↓N131b, ↓A132b, ↓S132b, ↓N132b, ↓A133b, ↓S133b, ↓N133b, ↓A134b, ↓S134b, ↓N134b, ↓A135b, ↓S135b, ↓N135b, ↓A136b, ↓S136b, ↓N136b, ↓A137b, ↓A137m, ↓A137p, ↓A137mp, ↓A137pm, ↓A137pmp, ↓A137mpp, ↓A137pp, ↓S137b, ↓S137m, ↓S137p, ↓S137mp, ↓S137pm, ↓S137pmp, ↓S137mpp, ↓S137pp, ↓N137b, ↓A138b, ↓S138b, ↓N138b, ↓A139b, ↓A139m, ↓A139p, ↓A139mp, ↓A139pm, ↓A139pmp, ↓A139mpp, ↓A139pp, ↓S139b, ↓S139m, ↓S139p, ↓S139mp, ↓S139pm, ↓S139pmp, ↓S139mpp, ↓S139pp, ↓N139b, ↓A140b, ↓S140b, ↓N140b, ↓A141b, ↓S141b, ↓N141b, ↓A142b, ↓S142b, ↓N142b, ↓A143b, ↓A143m, ↓A143p, ↓A143mp, ↓A143pm, ↓A143pmp, ↓A143mpp, ↓A143pp, ↓S143b, ↓S143m, ↓S143p, ↓S143mp, ↓S143pm, ↓S143pmp, ↓S143mpp, ↓S143pp, ↓A144b, ↓S144b, ↓P126_3n, ↓P126_12n, ↓P126_12o, ne1]
    rw [w1]
    have := lift w2 (m_cl85h (z := z) (nm := nm) N w3)
    rw [← wr_app] at this
    exact this
  · rw [if_neg q104, if_neg q104]
    by_cases q108 : cu tx n a = 108
    · rw [if_pos q108, if_neg (by omega : ¬ cu tx n a = 107)]
      obtain ⟨M', w1, w2, w3⟩ := words 1 (by omega)
      simp (disch := omega) only [↓znm_, ↓reduceIte, rn0, rn1, rbI, nle_t, nle_f, nlt_t, nlt_f, neq_t, neq_f, x_add, x_mul, x_sub, x_div, ↓x_rem, x_remN, setI_eq, setI_ne, setI_nk, setI_2, bn0, bn1, reduceCtorEq, ↓O126b, ↓G126_0b, ↓G126_1b, ↓G126_2b, ↓G126_3b, ↓P126_3b, ↓G126_4b, ↓G126_5b, ↓P126_5b, ↓G126_6b, ↓G126_7b, ↓G126_8b, ↓P126_8b, ↓G126_9b, ↓G126_10b, ↓P126_10b, ↓G126_11b, ↓P126_11b, ↓G126_12b, ↓P126_12b, ↓G126_13b, ↓P126_13b, ↓G126_14b, ↓P126_14b, ↓G126_15b, ↓P126_15b, ↓G126_16b, ↓G126_17b, ↓G126_18b, ↓G126_19b, ↓G126_20b, ↓G126_21b, ↓G126_22b, ↓G126_23b, ↓P126_23b, ↓G126_24b, ↓G126_25b, ↓G126_26b, ↓G126_27b, ↓A127b, ↓A127m, ↓A127p, ↓A127mp, ↓A127pm, ↓A127pmp, ↓A127mpp, ↓A127pp, ↓S127b, ↓S127m, ↓S127p, ↓S127mp, ↓S127pm, ↓S127pmp, ↓S127mpp, ↓S127pp, ↓N127b, ↓A128b, ↓S128b, ↓N128b, ↓A129b, ↓S129b, ↓N129b, ↓A130b, ↓S130b, ↓N130b, ↓A131b, ↓A131m, ↓A131p, ↓A131mp, ↓A131pm, ↓A131pmp, ↓A131mpp, ↓A131pp, ↓S131b, ↓S131m, ↓S131p, ↓S131mp, ↓S131pm, ↓S131pmp, ↓S131mpp, ↓S131pp, ↓N131b, ↓A132b, ↓S132b, ↓N132b, ↓A133b, ↓S133b, ↓N133b, ↓A134b, ↓S134b, ↓N134b, ↓A135b, ↓S135b, ↓N135b, ↓A136b, ↓S136b, ↓N136b, ↓A137b, ↓A137m, ↓A137p, ↓A137mp, ↓A137pm, ↓A137pmp, ↓A137mpp, ↓A137pp, ↓S137b, ↓S137m, ↓S137p, ↓S137mp, ↓S137pm, ↓S137pmp, ↓S137mpp, ↓S137pp, ↓N137b, ↓A138b, ↓S138b, ↓N138b, ↓A139b, ↓A139m, ↓A139p, ↓A139mp, ↓A139pm, ↓A139pmp, ↓A139mpp, ↓A139pp, ↓S139b, ↓S139m, ↓S139p, ↓S139mp, ↓S139pm, ↓S139pmp, ↓S139mpp, ↓S139pp, ↓N139b, ↓A140b, ↓S140b, ↓N140b, ↓A141b, ↓S141b, ↓N141b, ↓A142b, ↓S142b, ↓N142b, ↓A143b, ↓A143m, ↓A143p, ↓A143mp, ↓A143pm, ↓A143pmp, ↓A143mpp, ↓A143pp, ↓S143b, ↓S143m, ↓S143p, ↓S143mp, ↓S143pm, ↓S143pmp, ↓S143mpp, ↓S143pp, ↓A144b, ↓S144b, ↓P126_3n, ↓P126_12n, ↓P126_12o, ne1]
      rw [w1]
      have := lift w2 (m_cl85e (z := z) (nm := nm) N hN w3 (fun j hj => by rw [w2.2 134 j (by omega)]; exact hnm j hj) (by omega : 1 < 2))
      rw [← wr_app] at this
      exact this
    · rw [if_neg q108]
      by_cases q107 : cu tx n a = 107
      · rw [if_pos q107, if_pos q107]
        obtain ⟨M', w1, w2, w3⟩ := words 0 (by omega)
        simp (disch := omega) only [↓znm_, ↓reduceIte, rn0, rn1, rbI, nle_t, nle_f, nlt_t, nlt_f, neq_t, neq_f, x_add, x_mul, x_sub, x_div, ↓x_rem, x_remN, setI_eq, setI_ne, setI_nk, setI_2, bn0, bn1, reduceCtorEq, ↓O126b, ↓G126_0b, ↓G126_1b, ↓G126_2b, ↓G126_3b, ↓P126_3b, ↓G126_4b, ↓G126_5b, ↓P126_5b, ↓G126_6b, ↓G126_7b, ↓G126_8b, ↓P126_8b, ↓G126_9b, ↓G126_10b, ↓P126_10b, ↓G126_11b, ↓P126_11b, ↓G126_12b, ↓P126_12b, ↓G126_13b, ↓P126_13b, ↓G126_14b, ↓P126_14b, ↓G126_15b, ↓P126_15b, ↓G126_16b, ↓G126_17b, ↓G126_18b, ↓G126_19b, ↓G126_20b, ↓G126_21b, ↓G126_22b, ↓G126_23b, ↓P126_23b, ↓G126_24b, ↓G126_25b, ↓G126_26b, ↓G126_27b, ↓A127b, ↓A127m, ↓A127p, ↓A127mp, ↓A127pm, ↓A127pmp, ↓A127mpp, ↓A127pp, ↓S127b, ↓S127m, ↓S127p, ↓S127mp, ↓S127pm, ↓S127pmp, ↓S127mpp, ↓S127pp, ↓N127b, ↓A128b, ↓S128b, ↓N128b, ↓A129b, ↓S129b, ↓N129b, ↓A130b, ↓S130b, ↓N130b, ↓A131b, ↓A131m, ↓A131p, ↓A131mp, ↓A131pm, ↓A131pmp, ↓A131mpp, ↓A131pp, ↓S131b, ↓S131m, ↓S131p, ↓S131mp, ↓S131pm, ↓S131pmp, ↓S131mpp, ↓S131pp, ↓N131b, ↓A132b, ↓S132b, ↓N132b, ↓A133b, ↓S133b, ↓N133b, ↓A134b, ↓S134b, ↓N134b, ↓A135b, ↓S135b, ↓N135b, ↓A136b, ↓S136b, ↓N136b, ↓A137b, ↓A137m, ↓A137p, ↓A137mp, ↓A137pm, ↓A137pmp, ↓A137mpp, ↓A137pp, ↓S137b, ↓S137m, ↓S137p, ↓S137mp, ↓S137pm, ↓S137pmp, ↓S137mpp, ↓S137pp, ↓N137b, ↓A138b, ↓S138b, ↓N138b, ↓A139b, ↓A139m, ↓A139p, ↓A139mp, ↓A139pm, ↓A139pmp, ↓A139mpp, ↓A139pp, ↓S139b, ↓S139m, ↓S139p, ↓S139mp, ↓S139pm, ↓S139pmp, ↓S139mpp, ↓S139pp, ↓N139b, ↓A140b, ↓S140b, ↓N140b, ↓A141b, ↓S141b, ↓N141b, ↓A142b, ↓S142b, ↓N142b, ↓A143b, ↓A143m, ↓A143p, ↓A143mp, ↓A143pm, ↓A143pmp, ↓A143mpp, ↓A143pp, ↓S143b, ↓S143m, ↓S143p, ↓S143mp, ↓S143pm, ↓S143pmp, ↓S143mpp, ↓S143pp, ↓A144b, ↓S144b, ↓P126_3n, ↓P126_12n, ↓P126_12o, ne1]
        rw [w1]
        have := lift w2 (m_cl85e (z := z) (nm := nm) N hN w3 (fun j hj => by rw [w2.2 134 j (by omega)]; exact hnm j hj) (by omega : 0 < 2))
        rw [← wr_app] at this
        exact this
      · rw [if_neg q107, if_neg q107]
        have hw : pWord tx n [108, 111, 115, 101, 32] a = (false, a) := by rw [pWord, if_neg q108]
        rw [hw]
        refine ⟨setI M 126 12 (nI 0), ?_, FC_set (by omega) _, by rw [setI_ne (by omega)]; exact hS.2.1, setI_eq, fun q => by cases q⟩
        simp (disch := omega) only [↓znm_, ↓reduceIte, rn0, rn1, rbI, nle_t, nle_f, nlt_t, nlt_f, neq_t, neq_f, x_add, x_mul, x_sub, x_div, ↓x_rem, x_remN, setI_eq, setI_ne, setI_nk, setI_2, bn0, bn1, reduceCtorEq, ↓O126b, ↓G126_0b, ↓G126_1b, ↓G126_2b, ↓G126_3b, ↓P126_3b, ↓G126_4b, ↓G126_5b, ↓P126_5b, ↓G126_6b, ↓G126_7b, ↓G126_8b, ↓P126_8b, ↓G126_9b, ↓G126_10b, ↓P126_10b, ↓G126_11b, ↓P126_11b, ↓G126_12b, ↓P126_12b, ↓G126_13b, ↓P126_13b, ↓G126_14b, ↓P126_14b, ↓G126_15b, ↓P126_15b, ↓G126_16b, ↓G126_17b, ↓G126_18b, ↓G126_19b, ↓G126_20b, ↓G126_21b, ↓G126_22b, ↓G126_23b, ↓P126_23b, ↓G126_24b, ↓G126_25b, ↓G126_26b, ↓G126_27b, ↓A127b, ↓A127m, ↓A127p, ↓A127mp, ↓A127pm, ↓A127pmp, ↓A127mpp, ↓A127pp, ↓S127b, ↓S127m, ↓S127p, ↓S127mp, ↓S127pm, ↓S127pmp, ↓S127mpp, ↓S127pp, ↓N127b, ↓A128b, ↓S128b, ↓N128b, ↓A129b, ↓S129b, ↓N129b, ↓A130b, ↓S130b, ↓N130b, ↓A131b, ↓A131m, ↓A131p, ↓A131mp, ↓A131pm, ↓A131pmp, ↓A131mpp, ↓A131pp, ↓S131b, ↓S131m, ↓S131p, ↓S131mp, ↓S131pm, ↓S131pmp, ↓S131mpp, ↓S131pp, ↓N131b, ↓A132b, ↓S132b, ↓N132b, ↓A133b, ↓S133b, ↓N133b, ↓A134b, ↓S134b, ↓N134b, ↓A135b, ↓S135b, ↓N135b, ↓A136b, ↓S136b, ↓N136b, ↓A137b, ↓A137m, ↓A137p, ↓A137mp, ↓A137pm, ↓A137pmp, ↓A137mpp, ↓A137pp, ↓S137b, ↓S137m, ↓S137p, ↓S137mp, ↓S137pm, ↓S137pmp, ↓S137mpp, ↓S137pp, ↓N137b, ↓A138b, ↓S138b, ↓N138b, ↓A139b, ↓A139m, ↓A139p, ↓A139mp, ↓A139pm, ↓A139pmp, ↓A139mpp, ↓A139pp, ↓S139b, ↓S139m, ↓S139p, ↓S139mp, ↓S139pm, ↓S139pmp, ↓S139mpp, ↓S139pp, ↓N139b, ↓A140b, ↓S140b, ↓N140b, ↓A141b, ↓S141b, ↓N141b, ↓A142b, ↓S142b, ↓N142b, ↓A143b, ↓A143m, ↓A143p, ↓A143mp, ↓A143pm, ↓A143pmp, ↓A143mpp, ↓A143pp, ↓S143b, ↓S143m, ↓S143p, ↓S143mp, ↓S143pm, ↓S143pmp, ↓S143mpp, ↓S143pp, ↓A144b, ↓S144b, ↓P126_3n, ↓P126_12n, ↓P126_12o, f1]
theorem m_r62 {M : PM} {a : Nat} {ok : Bool} (hS : MS M n tx a ok) : bX12_readAll_62 N (enc z M) (z + 126) = some (bI (ok && decide (a = n)), enc z M) := by
  obtain ⟨⟨h10, hn, ht, _⟩, h11, han, h12⟩ := hS
  rw [bX12_readAll_62]
  simp only [lit]
  cases ok with
  | false =>
    rw [bI_f] at h12
    simp (disch := omega) only [↓znm_, ↓reduceIte, rn0, rn1, rbI, nle_t, nle_f, nlt_t, nlt_f, neq_t, neq_f, x_add, x_mul, x_sub, x_div, ↓x_rem, x_remN, setI_eq, setI_ne, setI_nk, setI_2, bn0, bn1, reduceCtorEq, ↓O126b, ↓G126_0b, ↓G126_1b, ↓G126_2b, ↓G126_3b, ↓P126_3b, ↓G126_4b, ↓G126_5b, ↓P126_5b, ↓G126_6b, ↓G126_7b, ↓G126_8b, ↓P126_8b, ↓G126_9b, ↓G126_10b, ↓P126_10b, ↓G126_11b, ↓P126_11b, ↓G126_12b, ↓P126_12b, ↓G126_13b, ↓P126_13b, ↓G126_14b, ↓P126_14b, ↓G126_15b, ↓P126_15b, ↓G126_16b, ↓G126_17b, ↓G126_18b, ↓G126_19b, ↓G126_20b, ↓G126_21b, ↓G126_22b, ↓G126_23b, ↓P126_23b, ↓G126_24b, ↓G126_25b, ↓G126_26b, ↓G126_27b, ↓A127b, ↓A127m, ↓A127p, ↓A127mp, ↓A127pm, ↓A127pmp, ↓A127mpp, ↓A127pp, ↓S127b, ↓S127m, ↓S127p, ↓S127mp, ↓S127pm, ↓S127pmp, ↓S127mpp, ↓S127pp, ↓N127b, ↓A128b, ↓S128b, ↓N128b, ↓A129b, ↓S129b, ↓N129b, ↓A130b, ↓S130b, ↓N130b, ↓A131b, ↓A131m, ↓A131p, ↓A131mp, ↓A131pm, ↓A131pmp, ↓A131mpp, ↓A131pp, ↓S131b, ↓S131m, ↓S131p, ↓S131mp, ↓S131pm, ↓S131pmp, ↓S131mpp, ↓S131pp, ↓N131b, ↓A132b, ↓S132b, ↓N132b, ↓A133b, ↓S133b, ↓N133b, ↓A134b, ↓S134b, ↓N134b, ↓A135b, ↓S135b, ↓N135b, ↓A136b, ↓S136b, ↓N136b, ↓A137b, ↓A137m, ↓A137p, ↓A137mp, ↓A137pm, ↓A137pmp, ↓A137mpp, ↓A137pp, ↓S137b, ↓S137m, ↓S137p, ↓S137mp, ↓S137pm, ↓S137pmp, ↓S137mpp, ↓S137pp, ↓N137b, ↓A138b, ↓S138b, ↓N138b, ↓A139b, ↓A139m, ↓A139p, ↓A139mp, ↓A139pm, ↓A139pmp, ↓A139mpp, ↓A139pp, ↓S139b, ↓S139m, ↓S139p, ↓S139mp, ↓S139pm, ↓S139pmp, ↓S139mpp, ↓S139pp, ↓N139b, ↓A140b, ↓S140b, ↓N140b, ↓A141b, ↓S141b, ↓N141b, ↓A142b, ↓S142b, ↓N142b, ↓A143b, ↓A143m, ↓A143p, ↓A143mp, ↓A143pm, ↓A143pmp, ↓A143mpp, ↓A143pp, ↓S143b, ↓S143m, ↓S143p, ↓S143mp, ↓S143pm, ↓S143pmp, ↓S143mpp, ↓S143pp, ↓A144b, ↓S144b, ↓P126_3n, ↓P126_12n, ↓P126_12o, h12]
    rfl
  | true =>
    rw [bI_t] at h12
    by_cases q : a = n
    · rw [decide_eq_true q]
      simp (disch := omega) only [↓znm_, ↓reduceIte, rn0, rn1, rbI, nle_t, nle_f, nlt_t, nlt_f, neq_t, neq_f, x_add, x_mul, x_sub, x_div, ↓x_rem, x_remN, setI_eq, setI_ne, setI_nk, setI_2, bn0, bn1, reduceCtorEq, ↓O126b, ↓G126_0b, ↓G126_1b, ↓G126_2b, ↓G126_3b, ↓P126_3b, ↓G126_4b, ↓G126_5b, ↓P126_5b, ↓G126_6b, ↓G126_7b, ↓G126_8b, ↓P126_8b, ↓G126_9b, ↓G126_10b, ↓P126_10b, ↓G126_11b, ↓P126_11b, ↓G126_12b, ↓P126_12b, ↓G126_13b, ↓P126_13b, ↓G126_14b, ↓P126_14b, ↓G126_15b, ↓P126_15b, ↓G126_16b, ↓G126_17b, ↓G126_18b, ↓G126_19b, ↓G126_20b, ↓G126_21b, ↓G126_22b, ↓G126_23b, ↓P126_23b, ↓G126_24b, ↓G126_25b, ↓G126_26b, ↓G126_27b, ↓A127b, ↓A127m, ↓A127p, ↓A127mp, ↓A127pm, ↓A127pmp, ↓A127mpp, ↓A127pp, ↓S127b, ↓S127m, ↓S127p, ↓S127mp, ↓S127pm, ↓S127pmp, ↓S127mpp, ↓S127pp, ↓N127b, ↓A128b, ↓S128b, ↓N128b, ↓A129b, ↓S129b, ↓N129b, ↓A130b, ↓S130b, ↓N130b, ↓A131b, ↓A131m, ↓A131p, ↓A131mp, ↓A131pm, ↓A131pmp, ↓A131mpp, ↓A131pp, ↓S131b, ↓S131m, ↓S131p, ↓S131mp, ↓S131pm, ↓S131pmp, ↓S131mpp, ↓S131pp, ↓N131b, ↓A132b, ↓S132b, ↓N132b, ↓A133b, ↓S133b, ↓N133b, ↓A134b, ↓S134b, ↓N134b, ↓A135b, ↓S135b, ↓N135b, ↓A136b, ↓S136b, ↓N136b, ↓A137b, ↓A137m, ↓A137p, ↓A137mp, ↓A137pm, ↓A137pmp, ↓A137mpp, ↓A137pp, ↓S137b, ↓S137m, ↓S137p, ↓S137mp, ↓S137pm, ↓S137pmp, ↓S137mpp, ↓S137pp, ↓N137b, ↓A138b, ↓S138b, ↓N138b, ↓A139b, ↓A139m, ↓A139p, ↓A139mp, ↓A139pm, ↓A139pmp, ↓A139mpp, ↓A139pp, ↓S139b, ↓S139m, ↓S139p, ↓S139mp, ↓S139pm, ↓S139pmp, ↓S139mpp, ↓S139pp, ↓N139b, ↓A140b, ↓S140b, ↓N140b, ↓A141b, ↓S141b, ↓N141b, ↓A142b, ↓S142b, ↓N142b, ↓A143b, ↓A143m, ↓A143p, ↓A143mp, ↓A143pm, ↓A143pmp, ↓A143mpp, ↓A143pp, ↓S143b, ↓S143m, ↓S143p, ↓S143mp, ↓S143pm, ↓S143pmp, ↓S143mpp, ↓S143pp, ↓A144b, ↓S144b, ↓P126_3n, ↓P126_12n, ↓P126_12o, h12, h11, h10]
      rfl
    · rw [decide_eq_false q]
      simp (disch := omega) only [↓znm_, ↓reduceIte, rn0, rn1, rbI, nle_t, nle_f, nlt_t, nlt_f, neq_t, neq_f, x_add, x_mul, x_sub, x_div, ↓x_rem, x_remN, setI_eq, setI_ne, setI_nk, setI_2, bn0, bn1, reduceCtorEq, ↓O126b, ↓G126_0b, ↓G126_1b, ↓G126_2b, ↓G126_3b, ↓P126_3b, ↓G126_4b, ↓G126_5b, ↓P126_5b, ↓G126_6b, ↓G126_7b, ↓G126_8b, ↓P126_8b, ↓G126_9b, ↓G126_10b, ↓P126_10b, ↓G126_11b, ↓P126_11b, ↓G126_12b, ↓P126_12b, ↓G126_13b, ↓P126_13b, ↓G126_14b, ↓P126_14b, ↓G126_15b, ↓P126_15b, ↓G126_16b, ↓G126_17b, ↓G126_18b, ↓G126_19b, ↓G126_20b, ↓G126_21b, ↓G126_22b, ↓G126_23b, ↓P126_23b, ↓G126_24b, ↓G126_25b, ↓G126_26b, ↓G126_27b, ↓A127b, ↓A127m, ↓A127p, ↓A127mp, ↓A127pm, ↓A127pmp, ↓A127mpp, ↓A127pp, ↓S127b, ↓S127m, ↓S127p, ↓S127mp, ↓S127pm, ↓S127pmp, ↓S127mpp, ↓S127pp, ↓N127b, ↓A128b, ↓S128b, ↓N128b, ↓A129b, ↓S129b, ↓N129b, ↓A130b, ↓S130b, ↓N130b, ↓A131b, ↓A131m, ↓A131p, ↓A131mp, ↓A131pm, ↓A131pmp, ↓A131mpp, ↓A131pp, ↓S131b, ↓S131m, ↓S131p, ↓S131mp, ↓S131pm, ↓S131pmp, ↓S131mpp, ↓S131pp, ↓N131b, ↓A132b, ↓S132b, ↓N132b, ↓A133b, ↓S133b, ↓N133b, ↓A134b, ↓S134b, ↓N134b, ↓A135b, ↓S135b, ↓N135b, ↓A136b, ↓S136b, ↓N136b, ↓A137b, ↓A137m, ↓A137p, ↓A137mp, ↓A137pm, ↓A137pmp, ↓A137mpp, ↓A137pp, ↓S137b, ↓S137m, ↓S137p, ↓S137mp, ↓S137pm, ↓S137pmp, ↓S137mpp, ↓S137pp, ↓N137b, ↓A138b, ↓S138b, ↓N138b, ↓A139b, ↓A139m, ↓A139p, ↓A139mp, ↓A139pm, ↓A139pmp, ↓A139mpp, ↓A139pp, ↓S139b, ↓S139m, ↓S139p, ↓S139mp, ↓S139pm, ↓S139pmp, ↓S139mpp, ↓S139pp, ↓N139b, ↓A140b, ↓S140b, ↓N140b, ↓A141b, ↓S141b, ↓N141b, ↓A142b, ↓S142b, ↓N142b, ↓A143b, ↓A143m, ↓A143p, ↓A143mp, ↓A143pm, ↓A143pmp, ↓A143mpp, ↓A143pp, ↓S143b, ↓S143m, ↓S143p, ↓S143mp, ↓S143pm, ↓S143pmp, ↓S143mpp, ↓S143pp, ↓A144b, ↓S144b, ↓P126_3n, ↓P126_12n, ↓P126_12o, h12, h11, h10]
      rfl
/-- what the model's reading of a whole text has done -/
def MA (z : Nat) (M : PM) (nm : Nat → Int32) (n : Nat) (x : Option (Int32 × AH)) (r : AR) : Prop :=
  ∃ M', x = some (bI (r.1 && decide (r.2.1 = n)), enc z M') ∧ FC M M' ∧ M'.1 126 11 = nI r.2.1 ∧ (r.1 = true → M'.1 126 15 = nI r.2.2.1 ∧ M'.1 126 14 = r.2.2.2 nm)
theorem m_allL (hN : 300 ≤ N) {nm : Nat → Int32} {M0 : PM} (hnm : ∀ j, j < 6 → M0.1 134 j = nm j) : ∀ m i (M : PM) (r : AR), i ≤ 10 → 10 - i < m → FC M0 M → MS M n tx r.2.1 r.1 → (r.1 = true → M.1 126 15 = nI r.2.2.1 ∧ M.1 126 14 = r.2.2.2 nm) → MA z M0 nm n (zfix (fun _ _ _ => none) (bX12_readAll_27 N) m (enc z M) (z + 126) (nI i)) (pRest tx n (10 - i) r) := by
  intro m
  induction m with
  | zero => intro i M r _ h; omega
  | succ m ih =>
    intro i M r hi hm hF hS hr
    have fin : MA z M0 nm n (bX12_readAll_62 N (enc z M) (z + 126)) r := ⟨M, m_r62 N hS, hF, hS.2.1, hr⟩
    have e1 := m_isAt (z := z) N hS (c := 59) (by omega)
    rw [zfix_succ, bX12_readAll_27]
    simp only [lit]
    by_cases h10 : i = 10
    · subst h10
      simp (disch := omega) only [↓znm_, ↓reduceIte, rn0, rn1, rbI, nle_t, nle_f, nlt_t, nlt_f, neq_t, neq_f, x_add, x_mul, x_sub, x_div, ↓x_rem, x_remN, setI_eq, setI_ne, setI_nk, setI_2, bn0, bn1, reduceCtorEq]
      exact fin
    · obtain ⟨q, hq⟩ : ∃ q, 10 - i = q + 1 := ⟨10 - i - 1, by omega⟩
      have hq2 : q = 10 - (i + 1) := by omega
      rw [hq, pRest]
      by_cases hc : r.1 = true ∧ cu tx n r.2.1 = 59
      · have hlt := cu_lt hc.2 (by omega)
        rw [if_pos hc]
        rw [hc.1, decide_eq_true hc.2] at e1
        have h11 := hS.2.1
        have hM1 : MS (setI M 126 11 (nI (r.2.1 + 1))) n tx (r.2.1 + 1) true := ⟨MX_F hS.1 (FE_set (by omega) _), setI_eq, by omega, by rw [setI_ne (by omega), hS.2.2.2, hc.1]⟩
        have hF1 : FC M (setI M 126 11 (nI (r.2.1 + 1))) := FC_set (by omega) _
        obtain ⟨M2, g1, g2, g3, g4, g5⟩ := m_cl (z := z) (nm := nm) N hN hM1 (fun j hj => by rw [setI_nk (by omega), hF.2 134 j (by omega)]; exact hnm j hj)
        have hr' := hr hc.1
        simp (disch := omega) only [↓znm_, ↓reduceIte, rn0, rn1, rbI, nle_t, nle_f, nlt_t, nlt_f, neq_t, neq_f, x_add, x_mul, x_sub, x_div, ↓x_rem, x_remN, setI_eq, setI_ne, setI_nk, setI_2, bn0, bn1, reduceCtorEq, ↓O126b, ↓G126_0b, ↓G126_1b, ↓G126_2b, ↓G126_3b, ↓P126_3b, ↓G126_4b, ↓G126_5b, ↓P126_5b, ↓G126_6b, ↓G126_7b, ↓G126_8b, ↓P126_8b, ↓G126_9b, ↓G126_10b, ↓P126_10b, ↓G126_11b, ↓P126_11b, ↓G126_12b, ↓P126_12b, ↓G126_13b, ↓P126_13b, ↓G126_14b, ↓P126_14b, ↓G126_15b, ↓P126_15b, ↓G126_16b, ↓G126_17b, ↓G126_18b, ↓G126_19b, ↓G126_20b, ↓G126_21b, ↓G126_22b, ↓G126_23b, ↓P126_23b, ↓G126_24b, ↓G126_25b, ↓G126_26b, ↓G126_27b, ↓A127b, ↓A127m, ↓A127p, ↓A127mp, ↓A127pm, ↓A127pmp, ↓A127mpp, ↓A127pp, ↓S127b, ↓S127m, ↓S127p, ↓S127mp, ↓S127pm, ↓S127pmp, ↓S127mpp, ↓S127pp, ↓N127b, ↓A128b, ↓S128b, ↓N128b, ↓A129b, ↓S129b, ↓N129b, ↓A130b, ↓S130b, ↓N130b, ↓A131b, ↓A131m, ↓A131p, ↓A131mp, ↓A131pm, ↓A131pmp, ↓A131mpp, ↓A131pp, ↓S131b, ↓S131m, ↓S131p, ↓S131mp, ↓S131pm, ↓S131pmp, ↓S131mpp, ↓S131pp, ↓N131b, ↓A132b, ↓S132b, ↓N132b, ↓A133b, ↓S133b, ↓N133b, ↓A134b, ↓S134b, ↓N134b, ↓A135b, ↓S135b, ↓N135b, ↓A136b, ↓S136b, ↓N136b, ↓A137b, ↓A137m, ↓A137p, ↓A137mp, ↓A137pm, ↓A137pmp, ↓A137mpp, ↓A137pp, ↓S137b, ↓S137m, ↓S137p, ↓S137mp, ↓S137pm, ↓S137pmp, ↓S137mpp, ↓S137pp, ↓N137b, ↓A138b, ↓S138b, ↓N138b, ↓A139b, ↓A139m, ↓A139p, ↓A139mp, ↓A139pm, ↓A139pmp, ↓A139mpp, ↓A139pp, ↓S139b, ↓S139m, ↓S139p, ↓S139mp, ↓S139pm, ↓S139pmp, ↓S139mpp, ↓S139pp, ↓N139b, ↓A140b, ↓S140b, ↓N140b, ↓A141b, ↓S141b, ↓N141b, ↓A142b, ↓S142b, ↓N142b, ↓A143b, ↓A143m, ↓A143p, ↓A143mp, ↓A143pm, ↓A143pmp, ↓A143mpp, ↓A143pp, ↓S143b, ↓S143m, ↓S143p, ↓S143mp, ↓S143pm, ↓S143pmp, ↓S143mpp, ↓S143pp, ↓A144b, ↓S144b, ↓P126_3n, ↓P126_12n, ↓P126_12o, ↓zc e1, h11, ↓zc g1]
        have := ih (i + 1) M2 ((pCl tx n (r.2.1 + 1)).1, (pCl tx n (r.2.1 + 1)).2.1, apH (pCl tx n (r.2.1 + 1)).2.2 r.2.2.1, apS (pCl tx n (r.2.1 + 1)).2.2 r.2.2.2) (by omega) (by omega) (FC_trans hF (FC_trans hF1 g2)) ⟨MX_C hM1.1 g2, g3, pCl_pg tx n _ (by omega), g4⟩ (fun w => ⟨(g5 w).1 _ (by rw [setI_ne (by omega)]; exact hr'.1), (g5 w).2 _ (by rw [setI_ne (by omega)]; exact hr'.2)⟩)
        rw [← hq2] at this
        exact this
      · rw [if_neg hc]
        have hfl : (r.1 && decide (cu tx n r.2.1 = 59)) = false := by
          cases hr : r.1 with
          | false => rfl
          | true => rw [decide_eq_false (fun w => hc ⟨hr, w⟩)]; rfl
        rw [hfl] at e1
        simp (disch := omega) only [↓znm_, ↓reduceIte, rn0, rn1, rbI, nle_t, nle_f, nlt_t, nlt_f, neq_t, neq_f, x_add, x_mul, x_sub, x_div, ↓x_rem, x_remN, setI_eq, setI_ne, setI_nk, setI_2, bn0, bn1, reduceCtorEq, ↓O126b, ↓G126_0b, ↓G126_1b, ↓G126_2b, ↓G126_3b, ↓P126_3b, ↓G126_4b, ↓G126_5b, ↓P126_5b, ↓G126_6b, ↓G126_7b, ↓G126_8b, ↓P126_8b, ↓G126_9b, ↓G126_10b, ↓P126_10b, ↓G126_11b, ↓P126_11b, ↓G126_12b, ↓P126_12b, ↓G126_13b, ↓P126_13b, ↓G126_14b, ↓P126_14b, ↓G126_15b, ↓P126_15b, ↓G126_16b, ↓G126_17b, ↓G126_18b, ↓G126_19b, ↓G126_20b, ↓G126_21b, ↓G126_22b, ↓G126_23b, ↓P126_23b, ↓G126_24b, ↓G126_25b, ↓G126_26b, ↓G126_27b, ↓A127b, ↓A127m, ↓A127p, ↓A127mp, ↓A127pm, ↓A127pmp, ↓A127mpp, ↓A127pp, ↓S127b, ↓S127m, ↓S127p, ↓S127mp, ↓S127pm, ↓S127pmp, ↓S127mpp, ↓S127pp, ↓N127b, ↓A128b, ↓S128b, ↓N128b, ↓A129b, ↓S129b, ↓N129b, ↓A130b, ↓S130b, ↓N130b, ↓A131b, ↓A131m, ↓A131p, ↓A131mp, ↓A131pm, ↓A131pmp, ↓A131mpp, ↓A131pp, ↓S131b, ↓S131m, ↓S131p, ↓S131mp, ↓S131pm, ↓S131pmp, ↓S131mpp, ↓S131pp, ↓N131b, ↓A132b, ↓S132b, ↓N132b, ↓A133b, ↓S133b, ↓N133b, ↓A134b, ↓S134b, ↓N134b, ↓A135b, ↓S135b, ↓N135b, ↓A136b, ↓S136b, ↓N136b, ↓A137b, ↓A137m, ↓A137p, ↓A137mp, ↓A137pm, ↓A137pmp, ↓A137mpp, ↓A137pp, ↓S137b, ↓S137m, ↓S137p, ↓S137mp, ↓S137pm, ↓S137pmp, ↓S137mpp, ↓S137pp, ↓N137b, ↓A138b, ↓S138b, ↓N138b, ↓A139b, ↓A139m, ↓A139p, ↓A139mp, ↓A139pm, ↓A139pmp, ↓A139mpp, ↓A139pp, ↓S139b, ↓S139m, ↓S139p, ↓S139mp, ↓S139pm, ↓S139pmp, ↓S139mpp, ↓S139pp, ↓N139b, ↓A140b, ↓S140b, ↓N140b, ↓A141b, ↓S141b, ↓N141b, ↓A142b, ↓S142b, ↓N142b, ↓A143b, ↓A143m, ↓A143p, ↓A143mp, ↓A143pm, ↓A143pmp, ↓A143mpp, ↓A143pp, ↓S143b, ↓S143m, ↓S143p, ↓S143mp, ↓S143pm, ↓S143pmp, ↓S143mpp, ↓S143pp, ↓A144b, ↓S144b, ↓P126_3n, ↓P126_12n, ↓P126_12o, ↓zc e1]
        exact fin
theorem m_all (hN : 300 ≤ N) {nm : Nat → Int32} {M : PM} (hX : MX M n tx) (hnm : ∀ j, j < 6 → M.1 134 j = nm j) : MA z M nm n (fX12_readAll N (enc z M) (z + 126)) (pAll tx n) := by
  rw [fX12_readAll]
  simp only [lit]
  have hF1 : FC M (setI (setI (setI (setI M 126 11 (nI 0)) 126 12 (nI 1)) 126 14 (nI 1)) 126 15 (nI 6)) := FC_trans (FC_set (by omega) _) (FC_trans (FC_set (by omega) _) (FC_trans (FC_set (by omega) _) (FC_set (by omega) _)))
  have hM1 : MS (setI (setI (setI (setI M 126 11 (nI 0)) 126 12 (nI 1)) 126 14 (nI 1)) 126 15 (nI 6)) n tx 0 true := ⟨MX_C hX hF1, by rw [setI_ne (by omega), setI_ne (by omega), setI_ne (by omega)]; exact setI_eq, by omega, by rw [setI_ne (by omega), setI_ne (by omega)]; exact setI_eq⟩
  obtain ⟨M2, g1, g2, g3, g4, g5⟩ := m_cl (z := z) (nm := nm) N hN hM1 (fun j hj => by rw [hF1.2 134 j (by omega)]; exact hnm j hj)
  simp (disch := omega) only [↓znm_, ↓reduceIte, rn0, rn1, rbI, nle_t, nle_f, nlt_t, nlt_f, neq_t, neq_f, x_add, x_mul, x_sub, x_div, ↓x_rem, x_remN, setI_eq, setI_ne, setI_nk, setI_2, bn0, bn1, reduceCtorEq, ↓O126b, ↓G126_0b, ↓G126_1b, ↓G126_2b, ↓G126_3b, ↓P126_3b, ↓G126_4b, ↓G126_5b, ↓P126_5b, ↓G126_6b, ↓G126_7b, ↓G126_8b, ↓P126_8b, ↓G126_9b, ↓G126_10b, ↓P126_10b, ↓G126_11b, ↓P126_11b, ↓G126_12b, ↓P126_12b, ↓G126_13b, ↓P126_13b, ↓G126_14b, ↓P126_14b, ↓G126_15b, ↓P126_15b, ↓G126_16b, ↓G126_17b, ↓G126_18b, ↓G126_19b, ↓G126_20b, ↓G126_21b, ↓G126_22b, ↓G126_23b, ↓P126_23b, ↓G126_24b, ↓G126_25b, ↓G126_26b, ↓G126_27b, ↓A127b, ↓A127m, ↓A127p, ↓A127mp, ↓A127pm, ↓A127pmp, ↓A127mpp, ↓A127pp, ↓S127b, ↓S127m, ↓S127p, ↓S127mp, ↓S127pm, ↓S127pmp, ↓S127mpp, ↓S127pp, ↓N127b, ↓A128b, ↓S128b, ↓N128b, ↓A129b, ↓S129b, ↓N129b, ↓A130b, ↓S130b, ↓N130b, ↓A131b, ↓A131m, ↓A131p, ↓A131mp, ↓A131pm, ↓A131pmp, ↓A131mpp, ↓A131pp, ↓S131b, ↓S131m, ↓S131p, ↓S131mp, ↓S131pm, ↓S131pmp, ↓S131mpp, ↓S131pp, ↓N131b, ↓A132b, ↓S132b, ↓N132b, ↓A133b, ↓S133b, ↓N133b, ↓A134b, ↓S134b, ↓N134b, ↓A135b, ↓S135b, ↓N135b, ↓A136b, ↓S136b, ↓N136b, ↓A137b, ↓A137m, ↓A137p, ↓A137mp, ↓A137pm, ↓A137pmp, ↓A137mpp, ↓A137pp, ↓S137b, ↓S137m, ↓S137p, ↓S137mp, ↓S137pm, ↓S137pmp, ↓S137mpp, ↓S137pp, ↓N137b, ↓A138b, ↓S138b, ↓N138b, ↓A139b, ↓A139m, ↓A139p, ↓A139mp, ↓A139pm, ↓A139pmp, ↓A139mpp, ↓A139pp, ↓S139b, ↓S139m, ↓S139p, ↓S139mp, ↓S139pm, ↓S139pmp, ↓S139mpp, ↓S139pp, ↓N139b, ↓A140b, ↓S140b, ↓N140b, ↓A141b, ↓S141b, ↓N141b, ↓A142b, ↓S142b, ↓N142b, ↓A143b, ↓A143m, ↓A143p, ↓A143mp, ↓A143pm, ↓A143pmp, ↓A143mpp, ↓A143pp, ↓S143b, ↓S143m, ↓S143p, ↓S143mp, ↓S143pm, ↓S143pmp, ↓S143mpp, ↓S143pp, ↓A144b, ↓S144b, ↓P126_3n, ↓P126_12n, ↓P126_12o, ↓zc g1]
  exact m_allL (z := z) N hN (M0 := M) hnm N 1 M2 ((pCl tx n 0).1, (pCl tx n 0).2.1, apH (pCl tx n 0).2.2 6, apS (pCl tx n 0).2.2 (fun _ => nI 1)) (by omega) (by omega) (FC_trans hF1 g2) ⟨MX_C hM1.1 g2, g3, pCl_pg tx n _ (by omega), g4⟩ (fun w => ⟨(g5 w).1 _ setI_eq, (g5 w).2 _ (by rw [setI_ne (by omega)]; exact setI_eq)⟩)
end
