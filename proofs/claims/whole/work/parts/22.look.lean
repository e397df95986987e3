theorem lit (n : Nat) : (OfNat.ofNat n : Int32) = nI n := rfl
theorem nclamp {i : Nat} (h : i < 2147483648) : (nI i).toNatClampNeg = i := nI_clamp (by omega)
theorem nin {i n : Nat} (h : i < n) (hn : n < 2147483648) : ¬ (nI i < 0 ∨ n ≤ (nI i).toNatClampNeg) := nI_in h (by omega)
theorem nlt {a b : Nat} (ha : a < 2147483648) (hb : b < 2147483648) : (nI a < nI b) ↔ (a < b) := nI_ltI (by omega) (by omega)
theorem nle {a b : Nat} (ha : a < 2147483648) (hb : b < 2147483648) : (nI a ≤ nI b) ↔ (a ≤ b) := nI_leI (by omega) (by omega)
theorem neq {a b : Nat} (ha : a < 2147483648) (hb : b < 2147483648) : (nI a = nI b) ↔ (a = b) := nI_eq (by omega) (by omega)
theorem nlt0 {a : Nat} (ha : a < 2147483648) : (nI a < 0) ↔ False := ⟨fun h => nI_pos (by omega) h, False.elim⟩
theorem n_ald {z : Nat} {M : PM} {k t n i : Nat} (hs : shp M.2.2 k = some (.inl (t, n))) (ht : t ≠ 3) (hi : i < n) (hn : n < 2147483648) : zald t (enc z M) (z + k) (nI i) = some (M.1 k i) := by
  rw [e_ald hs ht (nin hi hn), nclamp (by omega)]
theorem n_ast {z : Nat} {M : PM} {k t n i : Nat} {v : Int32} (hs : shp M.2.2 k = some (.inl (t, n))) (ht : t ≠ 3) (hi : i < n) (hn : n < 2147483648) : zast t (enc z M) (z + k) (nI i) v = some (enc z (setI M k i v)) := by
  rw [e_ast hs ht (nin hi hn), nclamp (by omega)]
theorem n_lald {z : Nat} {M : PM} {k n i : Nat} (hs : shp M.2.2 k = some (.inl (3, n))) (hi : i < n) (hn : n < 2147483648) : zlald (enc z M) (z + k) (nI i) = some (M.2.1 k i) := by
  rw [e_lald hs (nin hi hn), nclamp (by omega)]
theorem n_last {z : Nat} {M : PM} {k n i : Nat} {v : Int64} (hs : shp M.2.2 k = some (.inl (3, n))) (hi : i < n) (hn : n < 2147483648) : zlast (enc z M) (z + k) (nI i) v = some (enc z (setJ M k i v)) := by
  rw [e_last hs (nin hi hn), nclamp (by omega)]
theorem n_aald {z : Nat} {M : PM} {k t r i : Nat} {os : List Nat} (hs : shp M.2.2 k = some (.inr (.inr (t, os)))) (hr : os[i]? = some r) (hn : i < 2147483648) : zaald t (enc z M) (z + k) (nI i) = some (z + r) := by
  rw [e_aald hs (nI_pos (by omega)) (by rw [nclamp hn]; exact hr)]
theorem O0 {z : Nat} {M : PM} : zis (enc z M) z 11 = some () := e_is (k := 0) rfl
theorem G0_0 {z : Nat} {M : PM} : zgR (enc z M) z 11 0 = some (z + 1) := e_gR (k := 0) rfl rfl
theorem G0_1 {z : Nat} {M : PM} : zgR (enc z M) z 11 1 = some (z + 36) := e_gR (k := 0) rfl rfl
theorem G0_2 {z : Nat} {M : PM} : zgI (enc z M) z 11 2 = some (M.1 0 2) := e_gI (k := 0) rfl rfl
theorem P0_2 {z : Nat} {M : PM} {v : Int32} (hv : v = 0 ∨ v = 1) : zputZ (enc z M) z 11 2 v = some (enc z (setI M 0 2 v)) := e_pZ (k := 0) rfl rfl hv
theorem G0_3 {z : Nat} {M : PM} : zgR (enc z M) z 11 3 = some (z + 71) := e_gR (k := 0) rfl rfl
theorem G0_4 {z : Nat} {M : PM} : zgR (enc z M) z 11 4 = some (z + 79) := e_gR (k := 0) rfl rfl
theorem G0_5 {z : Nat} {M : PM} : zgR (enc z M) z 11 5 = some (z + 83) := e_gR (k := 0) rfl rfl
theorem G0_6 {z : Nat} {M : PM} : zgI (enc z M) z 11 6 = some (M.1 0 6) := e_gI (k := 0) rfl rfl
theorem P0_6 {z : Nat} {M : PM} {v : Int32} : zput (enc z M) z 11 6 (.int v) = some (enc z (setI M 0 6 v)) := e_pI (k := 0) rfl rfl
theorem G0_7 {z : Nat} {M : PM} : zgR (enc z M) z 11 7 = some (z + 84) := e_gR (k := 0) rfl rfl
theorem G0_8 {z : Nat} {M : PM} : zgI (enc z M) z 11 8 = some (M.1 0 8) := e_gI (k := 0) rfl rfl
theorem P0_8 {z : Nat} {M : PM} {v : Int32} : zput (enc z M) z 11 8 (.int v) = some (enc z (setI M 0 8 v)) := e_pI (k := 0) rfl rfl
theorem G0_9 {z : Nat} {M : PM} : zgR (enc z M) z 11 9 = some (z + 85) := e_gR (k := 0) rfl rfl
theorem G0_10 {z : Nat} {M : PM} : zgR (enc z M) z 11 10 = some (z + 87) := e_gR (k := 0) rfl rfl
theorem G0_11 {z : Nat} {M : PM} : zgR (enc z M) z 11 11 = some (z + 88) := e_gR (k := 0) rfl rfl
theorem G0_12 {z : Nat} {M : PM} : zgR (enc z M) z 11 12 = some (z + 89) := e_gR (k := 0) rfl rfl
theorem O1 {z : Nat} {M : PM} : zis (enc z M) (z + 1) 6 = some () := e_is (k := 1) rfl
theorem G1_0 {z : Nat} {M : PM} : zgI (enc z M) (z + 1) 6 0 = some (M.1 1 0) := e_gI (k := 1) rfl rfl
theorem P1_0 {z : Nat} {M : PM} {v : Int32} : zput (enc z M) (z + 1) 6 0 (.int v) = some (enc z (setI M 1 0 v)) := e_pI (k := 1) rfl rfl
theorem G1_1 {z : Nat} {M : PM} : zgR (enc z M) (z + 1) 6 1 = some (z + 2) := e_gR (k := 1) rfl rfl
theorem G1_2 {z : Nat} {M : PM} : zgR (enc z M) (z + 1) 6 2 = some (z + 3) := e_gR (k := 1) rfl rfl
theorem G1_3 {z : Nat} {M : PM} : zgR (enc z M) (z + 1) 6 3 = some (z + 4) := e_gR (k := 1) rfl rfl
theorem G1_4 {z : Nat} {M : PM} : zgR (enc z M) (z + 1) 6 4 = some (z + 5) := e_gR (k := 1) rfl rfl
theorem G1_5 {z : Nat} {M : PM} : zgI (enc z M) (z + 1) 6 5 = some (M.1 1 5) := e_gI (k := 1) rfl rfl
theorem P1_5 {z : Nat} {M : PM} {v : Int32} : zput (enc z M) (z + 1) 6 5 (.int v) = some (enc z (setI M 1 5 v)) := e_pI (k := 1) rfl rfl
theorem G1_6 {z : Nat} {M : PM} : zgR (enc z M) (z + 1) 6 6 = some (z + 6) := e_gR (k := 1) rfl rfl
theorem G1_7 {z : Nat} {M : PM} : zgR (enc z M) (z + 1) 6 7 = some (z + 7) := e_gR (k := 1) rfl rfl
theorem G1_8 {z : Nat} {M : PM} : zgR (enc z M) (z + 1) 6 8 = some (z + 8) := e_gR (k := 1) rfl rfl
theorem G1_9 {z : Nat} {M : PM} : zgI (enc z M) (z + 1) 6 9 = some (M.1 1 9) := e_gI (k := 1) rfl rfl
theorem P1_9 {z : Nat} {M : PM} {v : Int32} : zput (enc z M) (z + 1) 6 9 (.int v) = some (enc z (setI M 1 9 v)) := e_pI (k := 1) rfl rfl
theorem G1_10 {z : Nat} {M : PM} : zgR (enc z M) (z + 1) 6 10 = some (z + 9) := e_gR (k := 1) rfl rfl
theorem G1_11 {z : Nat} {M : PM} : zgI (enc z M) (z + 1) 6 11 = some (M.1 1 11) := e_gI (k := 1) rfl rfl
theorem P1_11 {z : Nat} {M : PM} {v : Int32} : zput (enc z M) (z + 1) 6 11 (.int v) = some (enc z (setI M 1 11 v)) := e_pI (k := 1) rfl rfl
theorem G1_12 {z : Nat} {M : PM} : zgI (enc z M) (z + 1) 6 12 = some (M.1 1 12) := e_gI (k := 1) rfl rfl
theorem P1_12 {z : Nat} {M : PM} {v : Int32} : zput (enc z M) (z + 1) 6 12 (.int v) = some (enc z (setI M 1 12 v)) := e_pI (k := 1) rfl rfl
theorem G1_13 {z : Nat} {M : PM} : zgI (enc z M) (z + 1) 6 13 = some (M.1 1 13) := e_gI (k := 1) rfl rfl
theorem P1_13 {z : Nat} {M : PM} {v : Int32} : zput (enc z M) (z + 1) 6 13 (.int v) = some (enc z (setI M 1 13 v)) := e_pI (k := 1) rfl rfl
theorem G1_14 {z : Nat} {M : PM} : zgI (enc z M) (z + 1) 6 14 = some (M.1 1 14) := e_gI (k := 1) rfl rfl
theorem P1_14 {z : Nat} {M : PM} {v : Int32} : zput (enc z M) (z + 1) 6 14 (.int v) = some (enc z (setI M 1 14 v)) := e_pI (k := 1) rfl rfl
theorem G1_15 {z : Nat} {M : PM} : zgR (enc z M) (z + 1) 6 15 = some (z + 10) := e_gR (k := 1) rfl rfl
theorem G1_16 {z : Nat} {M : PM} : zgI (enc z M) (z + 1) 6 16 = some (M.1 1 16) := e_gI (k := 1) rfl rfl
theorem P1_16 {z : Nat} {M : PM} {v : Int32} : zput (enc z M) (z + 1) 6 16 (.int v) = some (enc z (setI M 1 16 v)) := e_pI (k := 1) rfl rfl
theorem G1_17 {z : Nat} {M : PM} : zgR (enc z M) (z + 1) 6 17 = some (z + 16) := e_gR (k := 1) rfl rfl
theorem G1_18 {z : Nat} {M : PM} : zgI (enc z M) (z + 1) 6 18 = some (M.1 1 18) := e_gI (k := 1) rfl rfl
theorem P1_18 {z : Nat} {M : PM} {v : Int32} : zput (enc z M) (z + 1) 6 18 (.int v) = some (enc z (setI M 1 18 v)) := e_pI (k := 1) rfl rfl
theorem G1_19 {z : Nat} {M : PM} : zgR (enc z M) (z + 1) 6 19 = some (z + 27) := e_gR (k := 1) rfl rfl
theorem O36 {z : Nat} {M : PM} : zis (enc z M) (z + 36) 6 = some () := e_is (k := 36) rfl
theorem G36_0 {z : Nat} {M : PM} : zgI (enc z M) (z + 36) 6 0 = some (M.1 36 0) := e_gI (k := 36) rfl rfl
theorem P36_0 {z : Nat} {M : PM} {v : Int32} : zput (enc z M) (z + 36) 6 0 (.int v) = some (enc z (setI M 36 0 v)) := e_pI (k := 36) rfl rfl
theorem G36_1 {z : Nat} {M : PM} : zgR (enc z M) (z + 36) 6 1 = some (z + 37) := e_gR (k := 36) rfl rfl
theorem G36_2 {z : Nat} {M : PM} : zgR (enc z M) (z + 36) 6 2 = some (z + 38) := e_gR (k := 36) rfl rfl
theorem G36_3 {z : Nat} {M : PM} : zgR (enc z M) (z + 36) 6 3 = some (z + 39) := e_gR (k := 36) rfl rfl
theorem G36_4 {z : Nat} {M : PM} : zgR (enc z M) (z + 36) 6 4 = some (z + 40) := e_gR (k := 36) rfl rfl
theorem G36_5 {z : Nat} {M : PM} : zgI (enc z M) (z + 36) 6 5 = some (M.1 36 5) := e_gI (k := 36) rfl rfl
theorem P36_5 {z : Nat} {M : PM} {v : Int32} : zput (enc z M) (z + 36) 6 5 (.int v) = some (enc z (setI M 36 5 v)) := e_pI (k := 36) rfl rfl
theorem G36_6 {z : Nat} {M : PM} : zgR (enc z M) (z + 36) 6 6 = some (z + 41) := e_gR (k := 36) rfl rfl
theorem G36_7 {z : Nat} {M : PM} : zgR (enc z M) (z + 36) 6 7 = some (z + 42) := e_gR (k := 36) rfl rfl
theorem G36_8 {z : Nat} {M : PM} : zgR (enc z M) (z + 36) 6 8 = some (z + 43) := e_gR (k := 36) rfl rfl
theorem G36_9 {z : Nat} {M : PM} : zgI (enc z M) (z + 36) 6 9 = some (M.1 36 9) := e_gI (k := 36) rfl rfl
theorem P36_9 {z : Nat} {M : PM} {v : Int32} : zput (enc z M) (z + 36) 6 9 (.int v) = some (enc z (setI M 36 9 v)) := e_pI (k := 36) rfl rfl
theorem G36_10 {z : Nat} {M : PM} : zgR (enc z M) (z + 36) 6 10 = some (z + 44) := e_gR (k := 36) rfl rfl
theorem G36_11 {z : Nat} {M : PM} : zgI (enc z M) (z + 36) 6 11 = some (M.1 36 11) := e_gI (k := 36) rfl rfl
theorem P36_11 {z : Nat} {M : PM} {v : Int32} : zput (enc z M) (z + 36) 6 11 (.int v) = some (enc z (setI M 36 11 v)) := e_pI (k := 36) rfl rfl
theorem G36_12 {z : Nat} {M : PM} : zgI (enc z M) (z + 36) 6 12 = some (M.1 36 12) := e_gI (k := 36) rfl rfl
theorem P36_12 {z : Nat} {M : PM} {v : Int32} : zput (enc z M) (z + 36) 6 12 (.int v) = some (enc z (setI M 36 12 v)) := e_pI (k := 36) rfl rfl
theorem G36_13 {z : Nat} {M : PM} : zgI (enc z M) (z + 36) 6 13 = some (M.1 36 13) := e_gI (k := 36) rfl rfl
theorem P36_13 {z : Nat} {M : PM} {v : Int32} : zput (enc z M) (z + 36) 6 13 (.int v) = some (enc z (setI M 36 13 v)) := e_pI (k := 36) rfl rfl
theorem G36_14 {z : Nat} {M : PM} : zgI (enc z M) (z + 36) 6 14 = some (M.1 36 14) := e_gI (k := 36) rfl rfl
theorem P36_14 {z : Nat} {M : PM} {v : Int32} : zput (enc z M) (z + 36) 6 14 (.int v) = some (enc z (setI M 36 14 v)) := e_pI (k := 36) rfl rfl
theorem G36_15 {z : Nat} {M : PM} : zgR (enc z M) (z + 36) 6 15 = some (z + 45) := e_gR (k := 36) rfl rfl
theorem G36_16 {z : Nat} {M : PM} : zgI (enc z M) (z + 36) 6 16 = some (M.1 36 16) := e_gI (k := 36) rfl rfl
theorem P36_16 {z : Nat} {M : PM} {v : Int32} : zput (enc z M) (z + 36) 6 16 (.int v) = some (enc z (setI M 36 16 v)) := e_pI (k := 36) rfl rfl
theorem G36_17 {z : Nat} {M : PM} : zgR (enc z M) (z + 36) 6 17 = some (z + 51) := e_gR (k := 36) rfl rfl
theorem G36_18 {z : Nat} {M : PM} : zgI (enc z M) (z + 36) 6 18 = some (M.1 36 18) := e_gI (k := 36) rfl rfl
theorem P36_18 {z : Nat} {M : PM} {v : Int32} : zput (enc z M) (z + 36) 6 18 (.int v) = some (enc z (setI M 36 18 v)) := e_pI (k := 36) rfl rfl
theorem G36_19 {z : Nat} {M : PM} : zgR (enc z M) (z + 36) 6 19 = some (z + 62) := e_gR (k := 36) rfl rfl
theorem O85 {z : Nat} {M : PM} : zis (enc z M) (z + 85) 10 = some () := e_is (k := 85) rfl
theorem G85_0 {z : Nat} {M : PM} : zgI (enc z M) (z + 85) 10 0 = some (M.1 85 0) := e_gI (k := 85) rfl rfl
theorem P85_0 {z : Nat} {M : PM} {v : Int32} : zput (enc z M) (z + 85) 10 0 (.int v) = some (enc z (setI M 85 0 v)) := e_pI (k := 85) rfl rfl
theorem G85_1 {z : Nat} {M : PM} : zgI (enc z M) (z + 85) 10 1 = some (M.1 85 1) := e_gI (k := 85) rfl rfl
theorem P85_1 {z : Nat} {M : PM} {v : Int32} : zput (enc z M) (z + 85) 10 1 (.int v) = some (enc z (setI M 85 1 v)) := e_pI (k := 85) rfl rfl
theorem G85_2 {z : Nat} {M : PM} : zgI (enc z M) (z + 85) 10 2 = some (M.1 85 2) := e_gI (k := 85) rfl rfl
theorem P85_2 {z : Nat} {M : PM} {v : Int32} : zput (enc z M) (z + 85) 10 2 (.int v) = some (enc z (setI M 85 2 v)) := e_pI (k := 85) rfl rfl
theorem G85_3 {z : Nat} {M : PM} : zgR (enc z M) (z + 85) 10 3 = some (z + 86) := e_gR (k := 85) rfl rfl
theorem O126 {z : Nat} {M : PM} : zis (enc z M) (z + 126) 12 = some () := e_is (k := 126) rfl
theorem G126_0 {z : Nat} {M : PM} : zgR (enc z M) (z + 126) 12 0 = some (z + 127) := e_gR (k := 126) rfl rfl
theorem G126_1 {z : Nat} {M : PM} : zgR (enc z M) (z + 126) 12 1 = some (z + 128) := e_gR (k := 126) rfl rfl
theorem G126_2 {z : Nat} {M : PM} : zgR (enc z M) (z + 126) 12 2 = some (z + 129) := e_gR (k := 126) rfl rfl
theorem G126_3 {z : Nat} {M : PM} : zgI (enc z M) (z + 126) 12 3 = some (M.1 126 3) := e_gI (k := 126) rfl rfl
theorem P126_3 {z : Nat} {M : PM} {v : Int32} (hv : v = 0 ∨ v = 1) : zputZ (enc z M) (z + 126) 12 3 v = some (enc z (setI M 126 3 v)) := e_pZ (k := 126) rfl rfl hv
theorem G126_4 {z : Nat} {M : PM} : zgR (enc z M) (z + 126) 12 4 = some (z + 130) := e_gR (k := 126) rfl rfl
theorem G126_5 {z : Nat} {M : PM} : zgI (enc z M) (z + 126) 12 5 = some (M.1 126 5) := e_gI (k := 126) rfl rfl
theorem P126_5 {z : Nat} {M : PM} {v : Int32} : zput (enc z M) (z + 126) 12 5 (.int v) = some (enc z (setI M 126 5 v)) := e_pI (k := 126) rfl rfl
theorem G126_6 {z : Nat} {M : PM} : zgR (enc z M) (z + 126) 12 6 = some (z + 131) := e_gR (k := 126) rfl rfl
theorem G126_7 {z : Nat} {M : PM} : zgR (enc z M) (z + 126) 12 7 = some (z + 132) := e_gR (k := 126) rfl rfl
theorem G126_8 {z : Nat} {M : PM} : zgI (enc z M) (z + 126) 12 8 = some (M.1 126 8) := e_gI (k := 126) rfl rfl
theorem P126_8 {z : Nat} {M : PM} {v : Int32} : zput (enc z M) (z + 126) 12 8 (.int v) = some (enc z (setI M 126 8 v)) := e_pI (k := 126) rfl rfl
theorem G126_9 {z : Nat} {M : PM} : zgR (enc z M) (z + 126) 12 9 = some (z + 133) := e_gR (k := 126) rfl rfl
theorem G126_10 {z : Nat} {M : PM} : zgI (enc z M) (z + 126) 12 10 = some (M.1 126 10) := e_gI (k := 126) rfl rfl
theorem P126_10 {z : Nat} {M : PM} {v : Int32} : zput (enc z M) (z + 126) 12 10 (.int v) = some (enc z (setI M 126 10 v)) := e_pI (k := 126) rfl rfl
theorem G126_11 {z : Nat} {M : PM} : zgI (enc z M) (z + 126) 12 11 = some (M.1 126 11) := e_gI (k := 126) rfl rfl
theorem P126_11 {z : Nat} {M : PM} {v : Int32} : zput (enc z M) (z + 126) 12 11 (.int v) = some (enc z (setI M 126 11 v)) := e_pI (k := 126) rfl rfl
theorem G126_12 {z : Nat} {M : PM} : zgI (enc z M) (z + 126) 12 12 = some (M.1 126 12) := e_gI (k := 126) rfl rfl
theorem P126_12 {z : Nat} {M : PM} {v : Int32} (hv : v = 0 ∨ v = 1) : zputZ (enc z M) (z + 126) 12 12 v = some (enc z (setI M 126 12 v)) := e_pZ (k := 126) rfl rfl hv
theorem G126_13 {z : Nat} {M : PM} : zgI (enc z M) (z + 126) 12 13 = some (M.1 126 13) := e_gI (k := 126) rfl rfl
theorem P126_13 {z : Nat} {M : PM} {v : Int32} : zput (enc z M) (z + 126) 12 13 (.int v) = some (enc z (setI M 126 13 v)) := e_pI (k := 126) rfl rfl
theorem G126_14 {z : Nat} {M : PM} : zgI (enc z M) (z + 126) 12 14 = some (M.1 126 14) := e_gI (k := 126) rfl rfl
theorem P126_14 {z : Nat} {M : PM} {v : Int32} : zput (enc z M) (z + 126) 12 14 (.int v) = some (enc z (setI M 126 14 v)) := e_pI (k := 126) rfl rfl
theorem G126_15 {z : Nat} {M : PM} : zgI (enc z M) (z + 126) 12 15 = some (M.1 126 15) := e_gI (k := 126) rfl rfl
theorem P126_15 {z : Nat} {M : PM} {v : Int32} : zput (enc z M) (z + 126) 12 15 (.int v) = some (enc z (setI M 126 15 v)) := e_pI (k := 126) rfl rfl
theorem G126_16 {z : Nat} {M : PM} : zgR (enc z M) (z + 126) 12 16 = some (z + 134) := e_gR (k := 126) rfl rfl
theorem G126_17 {z : Nat} {M : PM} : zgR (enc z M) (z + 126) 12 17 = some (z + 135) := e_gR (k := 126) rfl rfl
theorem G126_18 {z : Nat} {M : PM} : zgR (enc z M) (z + 126) 12 18 = some (z + 136) := e_gR (k := 126) rfl rfl
theorem G126_19 {z : Nat} {M : PM} : zgR (enc z M) (z + 126) 12 19 = some (z + 137) := e_gR (k := 126) rfl rfl
theorem G126_20 {z : Nat} {M : PM} : zgR (enc z M) (z + 126) 12 20 = some (z + 138) := e_gR (k := 126) rfl rfl
theorem G126_21 {z : Nat} {M : PM} : zgR (enc z M) (z + 126) 12 21 = some (z + 139) := e_gR (k := 126) rfl rfl
theorem G126_22 {z : Nat} {M : PM} : zgR (enc z M) (z + 126) 12 22 = some (z + 140) := e_gR (k := 126) rfl rfl
theorem G126_23 {z : Nat} {M : PM} : zgI (enc z M) (z + 126) 12 23 = some (M.1 126 23) := e_gI (k := 126) rfl rfl
theorem P126_23 {z : Nat} {M : PM} {v : Int32} : zput (enc z M) (z + 126) 12 23 (.int v) = some (enc z (setI M 126 23 v)) := e_pI (k := 126) rfl rfl
theorem G126_24 {z : Nat} {M : PM} : zgR (enc z M) (z + 126) 12 24 = some (z + 141) := e_gR (k := 126) rfl rfl
theorem G126_25 {z : Nat} {M : PM} : zgR (enc z M) (z + 126) 12 25 = some (z + 142) := e_gR (k := 126) rfl rfl
theorem G126_26 {z : Nat} {M : PM} : zgR (enc z M) (z + 126) 12 26 = some (z + 143) := e_gR (k := 126) rfl rfl
theorem G126_27 {z : Nat} {M : PM} : zgR (enc z M) (z + 126) 12 27 = some (z + 144) := e_gR (k := 126) rfl rfl
theorem A2 {z : Nat} {M : PM} {i : Nat} (hi : i < 6) : zald 0 (enc z M) (z + 2) (nI i) = some (M.1 2 i) := n_ald (k := 2) rfl (by decide) hi (by decide)
theorem S2 {z : Nat} {M : PM} {i : Nat} {v : Int32} (hi : i < 6) : zast 0 (enc z M) (z + 2) (nI i) v = some (enc z (setI M 2 i v)) := n_ast (k := 2) rfl (by decide) hi (by decide)
theorem N2 {z : Nat} {M : PM} : zlen (enc z M) (z + 2) = some (nI 6) := e_lenA (k := 2) rfl (by decide)
theorem A3 {z : Nat} {M : PM} {i : Nat} (hi : i < 6) : zald 0 (enc z M) (z + 3) (nI i) = some (M.1 3 i) := n_ald (k := 3) rfl (by decide) hi (by decide)
theorem S3 {z : Nat} {M : PM} {i : Nat} {v : Int32} (hi : i < 6) : zast 0 (enc z M) (z + 3) (nI i) v = some (enc z (setI M 3 i v)) := n_ast (k := 3) rfl (by decide) hi (by decide)
theorem N3 {z : Nat} {M : PM} : zlen (enc z M) (z + 3) = some (nI 6) := e_lenA (k := 3) rfl (by decide)
theorem A4 {z : Nat} {M : PM} {i : Nat} (hi : i < 6) : zald 0 (enc z M) (z + 4) (nI i) = some (M.1 4 i) := n_ald (k := 4) rfl (by decide) hi (by decide)
theorem S4 {z : Nat} {M : PM} {i : Nat} {v : Int32} (hi : i < 6) : zast 0 (enc z M) (z + 4) (nI i) v = some (enc z (setI M 4 i v)) := n_ast (k := 4) rfl (by decide) hi (by decide)
theorem N4 {z : Nat} {M : PM} : zlen (enc z M) (z + 4) = some (nI 6) := e_lenA (k := 4) rfl (by decide)
theorem A5 {z : Nat} {M : PM} {i : Nat} (hi : i < 24) : zald 0 (enc z M) (z + 5) (nI i) = some (M.1 5 i) := n_ald (k := 5) rfl (by decide) hi (by decide)
theorem S5 {z : Nat} {M : PM} {i : Nat} {v : Int32} (hi : i < 24) : zast 0 (enc z M) (z + 5) (nI i) v = some (enc z (setI M 5 i v)) := n_ast (k := 5) rfl (by decide) hi (by decide)
theorem N5 {z : Nat} {M : PM} : zlen (enc z M) (z + 5) = some (nI 24) := e_lenA (k := 5) rfl (by decide)
theorem A6 {z : Nat} {M : PM} {i : Nat} (hi : i < 8) : zald 0 (enc z M) (z + 6) (nI i) = some (M.1 6 i) := n_ald (k := 6) rfl (by decide) hi (by decide)
theorem S6 {z : Nat} {M : PM} {i : Nat} {v : Int32} (hi : i < 8) : zast 0 (enc z M) (z + 6) (nI i) v = some (enc z (setI M 6 i v)) := n_ast (k := 6) rfl (by decide) hi (by decide)
theorem N6 {z : Nat} {M : PM} : zlen (enc z M) (z + 6) = some (nI 8) := e_lenA (k := 6) rfl (by decide)
theorem A7 {z : Nat} {M : PM} {i : Nat} (hi : i < 8) : zald 0 (enc z M) (z + 7) (nI i) = some (M.1 7 i) := n_ald (k := 7) rfl (by decide) hi (by decide)
theorem S7 {z : Nat} {M : PM} {i : Nat} {v : Int32} (hi : i < 8) : zast 0 (enc z M) (z + 7) (nI i) v = some (enc z (setI M 7 i v)) := n_ast (k := 7) rfl (by decide) hi (by decide)
theorem N7 {z : Nat} {M : PM} : zlen (enc z M) (z + 7) = some (nI 8) := e_lenA (k := 7) rfl (by decide)
theorem A8 {z : Nat} {M : PM} {i : Nat} (hi : i < 8) : zald 0 (enc z M) (z + 8) (nI i) = some (M.1 8 i) := n_ald (k := 8) rfl (by decide) hi (by decide)
theorem S8 {z : Nat} {M : PM} {i : Nat} {v : Int32} (hi : i < 8) : zast 0 (enc z M) (z + 8) (nI i) v = some (enc z (setI M 8 i v)) := n_ast (k := 8) rfl (by decide) hi (by decide)
theorem N8 {z : Nat} {M : PM} : zlen (enc z M) (z + 8) = some (nI 8) := e_lenA (k := 8) rfl (by decide)
theorem A9 {z : Nat} {M : PM} {i : Nat} (hi : i < 5) : zald 0 (enc z M) (z + 9) (nI i) = some (M.1 9 i) := n_ald (k := 9) rfl (by decide) hi (by decide)
theorem S9 {z : Nat} {M : PM} {i : Nat} {v : Int32} (hi : i < 5) : zast 0 (enc z M) (z + 9) (nI i) v = some (enc z (setI M 9 i v)) := n_ast (k := 9) rfl (by decide) hi (by decide)
theorem N9 {z : Nat} {M : PM} : zlen (enc z M) (z + 9) = some (nI 5) := e_lenA (k := 9) rfl (by decide)
theorem A37 {z : Nat} {M : PM} {i : Nat} (hi : i < 6) : zald 0 (enc z M) (z + 37) (nI i) = some (M.1 37 i) := n_ald (k := 37) rfl (by decide) hi (by decide)
theorem S37 {z : Nat} {M : PM} {i : Nat} {v : Int32} (hi : i < 6) : zast 0 (enc z M) (z + 37) (nI i) v = some (enc z (setI M 37 i v)) := n_ast (k := 37) rfl (by decide) hi (by decide)
theorem N37 {z : Nat} {M : PM} : zlen (enc z M) (z + 37) = some (nI 6) := e_lenA (k := 37) rfl (by decide)
theorem A38 {z : Nat} {M : PM} {i : Nat} (hi : i < 6) : zald 0 (enc z M) (z + 38) (nI i) = some (M.1 38 i) := n_ald (k := 38) rfl (by decide) hi (by decide)
theorem S38 {z : Nat} {M : PM} {i : Nat} {v : Int32} (hi : i < 6) : zast 0 (enc z M) (z + 38) (nI i) v = some (enc z (setI M 38 i v)) := n_ast (k := 38) rfl (by decide) hi (by decide)
theorem N38 {z : Nat} {M : PM} : zlen (enc z M) (z + 38) = some (nI 6) := e_lenA (k := 38) rfl (by decide)
theorem A39 {z : Nat} {M : PM} {i : Nat} (hi : i < 6) : zald 0 (enc z M) (z + 39) (nI i) = some (M.1 39 i) := n_ald (k := 39) rfl (by decide) hi (by decide)
theorem S39 {z : Nat} {M : PM} {i : Nat} {v : Int32} (hi : i < 6) : zast 0 (enc z M) (z + 39) (nI i) v = some (enc z (setI M 39 i v)) := n_ast (k := 39) rfl (by decide) hi (by decide)
theorem N39 {z : Nat} {M : PM} : zlen (enc z M) (z + 39) = some (nI 6) := e_lenA (k := 39) rfl (by decide)
theorem A40 {z : Nat} {M : PM} {i : Nat} (hi : i < 24) : zald 0 (enc z M) (z + 40) (nI i) = some (M.1 40 i) := n_ald (k := 40) rfl (by decide) hi (by decide)
theorem S40 {z : Nat} {M : PM} {i : Nat} {v : Int32} (hi : i < 24) : zast 0 (enc z M) (z + 40) (nI i) v = some (enc z (setI M 40 i v)) := n_ast (k := 40) rfl (by decide) hi (by decide)
theorem N40 {z : Nat} {M : PM} : zlen (enc z M) (z + 40) = some (nI 24) := e_lenA (k := 40) rfl (by decide)
theorem A41 {z : Nat} {M : PM} {i : Nat} (hi : i < 8) : zald 0 (enc z M) (z + 41) (nI i) = some (M.1 41 i) := n_ald (k := 41) rfl (by decide) hi (by decide)
theorem S41 {z : Nat} {M : PM} {i : Nat} {v : Int32} (hi : i < 8) : zast 0 (enc z M) (z + 41) (nI i) v = some (enc z (setI M 41 i v)) := n_ast (k := 41) rfl (by decide) hi (by decide)
theorem N41 {z : Nat} {M : PM} : zlen (enc z M) (z + 41) = some (nI 8) := e_lenA (k := 41) rfl (by decide)
theorem A42 {z : Nat} {M : PM} {i : Nat} (hi : i < 8) : zald 0 (enc z M) (z + 42) (nI i) = some (M.1 42 i) := n_ald (k := 42) rfl (by decide) hi (by decide)
theorem S42 {z : Nat} {M : PM} {i : Nat} {v : Int32} (hi : i < 8) : zast 0 (enc z M) (z + 42) (nI i) v = some (enc z (setI M 42 i v)) := n_ast (k := 42) rfl (by decide) hi (by decide)
theorem N42 {z : Nat} {M : PM} : zlen (enc z M) (z + 42) = some (nI 8) := e_lenA (k := 42) rfl (by decide)
theorem A43 {z : Nat} {M : PM} {i : Nat} (hi : i < 8) : zald 0 (enc z M) (z + 43) (nI i) = some (M.1 43 i) := n_ald (k := 43) rfl (by decide) hi (by decide)
theorem S43 {z : Nat} {M : PM} {i : Nat} {v : Int32} (hi : i < 8) : zast 0 (enc z M) (z + 43) (nI i) v = some (enc z (setI M 43 i v)) := n_ast (k := 43) rfl (by decide) hi (by decide)
theorem N43 {z : Nat} {M : PM} : zlen (enc z M) (z + 43) = some (nI 8) := e_lenA (k := 43) rfl (by decide)
theorem A44 {z : Nat} {M : PM} {i : Nat} (hi : i < 5) : zald 0 (enc z M) (z + 44) (nI i) = some (M.1 44 i) := n_ald (k := 44) rfl (by decide) hi (by decide)
theorem S44 {z : Nat} {M : PM} {i : Nat} {v : Int32} (hi : i < 5) : zast 0 (enc z M) (z + 44) (nI i) v = some (enc z (setI M 44 i v)) := n_ast (k := 44) rfl (by decide) hi (by decide)
theorem N44 {z : Nat} {M : PM} : zlen (enc z M) (z + 44) = some (nI 5) := e_lenA (k := 44) rfl (by decide)
theorem A84 {z : Nat} {M : PM} {i : Nat} (hi : i < 100) : zald 1 (enc z M) (z + 84) (nI i) = some (M.1 84 i) := n_ald (k := 84) rfl (by decide) hi (by decide)
theorem S84 {z : Nat} {M : PM} {i : Nat} {v : Int32} (hi : i < 100) : zast 1 (enc z M) (z + 84) (nI i) v = some (enc z (setI M 84 i v)) := n_ast (k := 84) rfl (by decide) hi (by decide)
theorem N84 {z : Nat} {M : PM} : zlen (enc z M) (z + 84) = some (nI 100) := e_lenA (k := 84) rfl (by decide)
theorem A86 {z : Nat} {M : PM} {i : Nat} (hi : i < 20) : zald 0 (enc z M) (z + 86) (nI i) = some (M.1 86 i) := n_ald (k := 86) rfl (by decide) hi (by decide)
theorem S86 {z : Nat} {M : PM} {i : Nat} {v : Int32} (hi : i < 20) : zast 0 (enc z M) (z + 86) (nI i) v = some (enc z (setI M 86 i v)) := n_ast (k := 86) rfl (by decide) hi (by decide)
theorem N86 {z : Nat} {M : PM} : zlen (enc z M) (z + 86) = some (nI 20) := e_lenA (k := 86) rfl (by decide)
theorem A88 {z : Nat} {M : PM} {i : Nat} (hi : i < 8) : zald 0 (enc z M) (z + 88) (nI i) = some (M.1 88 i) := n_ald (k := 88) rfl (by decide) hi (by decide)
theorem S88 {z : Nat} {M : PM} {i : Nat} {v : Int32} (hi : i < 8) : zast 0 (enc z M) (z + 88) (nI i) v = some (enc z (setI M 88 i v)) := n_ast (k := 88) rfl (by decide) hi (by decide)
theorem N88 {z : Nat} {M : PM} : zlen (enc z M) (z + 88) = some (nI 8) := e_lenA (k := 88) rfl (by decide)
theorem A89 {z : Nat} {M : PM} {i : Nat} (hi : i < 6) : zald 0 (enc z M) (z + 89) (nI i) = some (M.1 89 i) := n_ald (k := 89) rfl (by decide) hi (by decide)
theorem S89 {z : Nat} {M : PM} {i : Nat} {v : Int32} (hi : i < 6) : zast 0 (enc z M) (z + 89) (nI i) v = some (enc z (setI M 89 i v)) := n_ast (k := 89) rfl (by decide) hi (by decide)
theorem N89 {z : Nat} {M : PM} : zlen (enc z M) (z + 89) = some (nI 6) := e_lenA (k := 89) rfl (by decide)
theorem A127 {z : Nat} {M : PM} {i : Nat} (hi : i < 140) : zald 0 (enc z M) (z + 127) (nI i) = some (M.1 127 i) := n_ald (k := 127) rfl (by decide) hi (by decide)
theorem S127 {z : Nat} {M : PM} {i : Nat} {v : Int32} (hi : i < 140) : zast 0 (enc z M) (z + 127) (nI i) v = some (enc z (setI M 127 i v)) := n_ast (k := 127) rfl (by decide) hi (by decide)
theorem N127 {z : Nat} {M : PM} : zlen (enc z M) (z + 127) = some (nI 140) := e_lenA (k := 127) rfl (by decide)
theorem A128 {z : Nat} {M : PM} {i : Nat} (hi : i < 140) : zald 0 (enc z M) (z + 128) (nI i) = some (M.1 128 i) := n_ald (k := 128) rfl (by decide) hi (by decide)
theorem S128 {z : Nat} {M : PM} {i : Nat} {v : Int32} (hi : i < 140) : zast 0 (enc z M) (z + 128) (nI i) v = some (enc z (setI M 128 i v)) := n_ast (k := 128) rfl (by decide) hi (by decide)
theorem N128 {z : Nat} {M : PM} : zlen (enc z M) (z + 128) = some (nI 140) := e_lenA (k := 128) rfl (by decide)
theorem A129 {z : Nat} {M : PM} {i : Nat} (hi : i < 140) : zald 0 (enc z M) (z + 129) (nI i) = some (M.1 129 i) := n_ald (k := 129) rfl (by decide) hi (by decide)
theorem S129 {z : Nat} {M : PM} {i : Nat} {v : Int32} (hi : i < 140) : zast 0 (enc z M) (z + 129) (nI i) v = some (enc z (setI M 129 i v)) := n_ast (k := 129) rfl (by decide) hi (by decide)
theorem N129 {z : Nat} {M : PM} : zlen (enc z M) (z + 129) = some (nI 140) := e_lenA (k := 129) rfl (by decide)
theorem A130 {z : Nat} {M : PM} {i : Nat} (hi : i < 100) : zald 0 (enc z M) (z + 130) (nI i) = some (M.1 130 i) := n_ald (k := 130) rfl (by decide) hi (by decide)
theorem S130 {z : Nat} {M : PM} {i : Nat} {v : Int32} (hi : i < 100) : zast 0 (enc z M) (z + 130) (nI i) v = some (enc z (setI M 130 i v)) := n_ast (k := 130) rfl (by decide) hi (by decide)
theorem N130 {z : Nat} {M : PM} : zlen (enc z M) (z + 130) = some (nI 100) := e_lenA (k := 130) rfl (by decide)
theorem A131 {z : Nat} {M : PM} {i : Nat} (hi : i < 600) : zald 0 (enc z M) (z + 131) (nI i) = some (M.1 131 i) := n_ald (k := 131) rfl (by decide) hi (by decide)
theorem S131 {z : Nat} {M : PM} {i : Nat} {v : Int32} (hi : i < 600) : zast 0 (enc z M) (z + 131) (nI i) v = some (enc z (setI M 131 i v)) := n_ast (k := 131) rfl (by decide) hi (by decide)
theorem N131 {z : Nat} {M : PM} : zlen (enc z M) (z + 131) = some (nI 600) := e_lenA (k := 131) rfl (by decide)
theorem A132 {z : Nat} {M : PM} {i : Nat} (hi : i < 6) : zald 0 (enc z M) (z + 132) (nI i) = some (M.1 132 i) := n_ald (k := 132) rfl (by decide) hi (by decide)
theorem S132 {z : Nat} {M : PM} {i : Nat} {v : Int32} (hi : i < 6) : zast 0 (enc z M) (z + 132) (nI i) v = some (enc z (setI M 132 i v)) := n_ast (k := 132) rfl (by decide) hi (by decide)
theorem N132 {z : Nat} {M : PM} : zlen (enc z M) (z + 132) = some (nI 6) := e_lenA (k := 132) rfl (by decide)
theorem A133 {z : Nat} {M : PM} {i : Nat} (hi : i < 100) : zald 0 (enc z M) (z + 133) (nI i) = some (M.1 133 i) := n_ald (k := 133) rfl (by decide) hi (by decide)
theorem S133 {z : Nat} {M : PM} {i : Nat} {v : Int32} (hi : i < 100) : zast 0 (enc z M) (z + 133) (nI i) v = some (enc z (setI M 133 i v)) := n_ast (k := 133) rfl (by decide) hi (by decide)
theorem N133 {z : Nat} {M : PM} : zlen (enc z M) (z + 133) = some (nI 100) := e_lenA (k := 133) rfl (by decide)
theorem A134 {z : Nat} {M : PM} {i : Nat} (hi : i < 6) : zald 0 (enc z M) (z + 134) (nI i) = some (M.1 134 i) := n_ald (k := 134) rfl (by decide) hi (by decide)
theorem S134 {z : Nat} {M : PM} {i : Nat} {v : Int32} (hi : i < 6) : zast 0 (enc z M) (z + 134) (nI i) v = some (enc z (setI M 134 i v)) := n_ast (k := 134) rfl (by decide) hi (by decide)
theorem N134 {z : Nat} {M : PM} : zlen (enc z M) (z + 134) = some (nI 6) := e_lenA (k := 134) rfl (by decide)
theorem A135 {z : Nat} {M : PM} {i : Nat} (hi : i < 6) : zald 2 (enc z M) (z + 135) (nI i) = some (M.1 135 i) := n_ald (k := 135) rfl (by decide) hi (by decide)
theorem S135 {z : Nat} {M : PM} {i : Nat} {v : Int32} (hi : i < 6) : zast 2 (enc z M) (z + 135) (nI i) v = some (enc z (setI M 135 i v)) := n_ast (k := 135) rfl (by decide) hi (by decide)
theorem N135 {z : Nat} {M : PM} : zlen (enc z M) (z + 135) = some (nI 6) := e_lenA (k := 135) rfl (by decide)
theorem A136 {z : Nat} {M : PM} {i : Nat} (hi : i < 3) : zald 2 (enc z M) (z + 136) (nI i) = some (M.1 136 i) := n_ald (k := 136) rfl (by decide) hi (by decide)
theorem S136 {z : Nat} {M : PM} {i : Nat} {v : Int32} (hi : i < 3) : zast 2 (enc z M) (z + 136) (nI i) v = some (enc z (setI M 136 i v)) := n_ast (k := 136) rfl (by decide) hi (by decide)
theorem N136 {z : Nat} {M : PM} : zlen (enc z M) (z + 136) = some (nI 3) := e_lenA (k := 136) rfl (by decide)
theorem A137 {z : Nat} {M : PM} {i : Nat} (hi : i < 15) : zald 2 (enc z M) (z + 137) (nI i) = some (M.1 137 i) := n_ald (k := 137) rfl (by decide) hi (by decide)
theorem S137 {z : Nat} {M : PM} {i : Nat} {v : Int32} (hi : i < 15) : zast 2 (enc z M) (z + 137) (nI i) v = some (enc z (setI M 137 i v)) := n_ast (k := 137) rfl (by decide) hi (by decide)
theorem N137 {z : Nat} {M : PM} : zlen (enc z M) (z + 137) = some (nI 15) := e_lenA (k := 137) rfl (by decide)
theorem A138 {z : Nat} {M : PM} {i : Nat} (hi : i < 7) : zald 0 (enc z M) (z + 138) (nI i) = some (M.1 138 i) := n_ald (k := 138) rfl (by decide) hi (by decide)
theorem S138 {z : Nat} {M : PM} {i : Nat} {v : Int32} (hi : i < 7) : zast 0 (enc z M) (z + 138) (nI i) v = some (enc z (setI M 138 i v)) := n_ast (k := 138) rfl (by decide) hi (by decide)
theorem N138 {z : Nat} {M : PM} : zlen (enc z M) (z + 138) = some (nI 7) := e_lenA (k := 138) rfl (by decide)
theorem A139 {z : Nat} {M : PM} {i : Nat} (hi : i < 21) : zald 0 (enc z M) (z + 139) (nI i) = some (M.1 139 i) := n_ald (k := 139) rfl (by decide) hi (by decide)
theorem S139 {z : Nat} {M : PM} {i : Nat} {v : Int32} (hi : i < 21) : zast 0 (enc z M) (z + 139) (nI i) v = some (enc z (setI M 139 i v)) := n_ast (k := 139) rfl (by decide) hi (by decide)
theorem N139 {z : Nat} {M : PM} : zlen (enc z M) (z + 139) = some (nI 21) := e_lenA (k := 139) rfl (by decide)
theorem A140 {z : Nat} {M : PM} {i : Nat} (hi : i < 20) : zald 0 (enc z M) (z + 140) (nI i) = some (M.1 140 i) := n_ald (k := 140) rfl (by decide) hi (by decide)
theorem S140 {z : Nat} {M : PM} {i : Nat} {v : Int32} (hi : i < 20) : zast 0 (enc z M) (z + 140) (nI i) v = some (enc z (setI M 140 i v)) := n_ast (k := 140) rfl (by decide) hi (by decide)
theorem N140 {z : Nat} {M : PM} : zlen (enc z M) (z + 140) = some (nI 20) := e_lenA (k := 140) rfl (by decide)
theorem A141 {z : Nat} {M : PM} {i : Nat} (hi : i < 6) : zald 0 (enc z M) (z + 141) (nI i) = some (M.1 141 i) := n_ald (k := 141) rfl (by decide) hi (by decide)
theorem S141 {z : Nat} {M : PM} {i : Nat} {v : Int32} (hi : i < 6) : zast 0 (enc z M) (z + 141) (nI i) v = some (enc z (setI M 141 i v)) := n_ast (k := 141) rfl (by decide) hi (by decide)
theorem N141 {z : Nat} {M : PM} : zlen (enc z M) (z + 141) = some (nI 6) := e_lenA (k := 141) rfl (by decide)
theorem A142 {z : Nat} {M : PM} {i : Nat} (hi : i < 6) : zald 0 (enc z M) (z + 142) (nI i) = some (M.1 142 i) := n_ald (k := 142) rfl (by decide) hi (by decide)
theorem S142 {z : Nat} {M : PM} {i : Nat} {v : Int32} (hi : i < 6) : zast 0 (enc z M) (z + 142) (nI i) v = some (enc z (setI M 142 i v)) := n_ast (k := 142) rfl (by decide) hi (by decide)
theorem N142 {z : Nat} {M : PM} : zlen (enc z M) (z + 142) = some (nI 6) := e_lenA (k := 142) rfl (by decide)
theorem A143 {z : Nat} {M : PM} {i : Nat} (hi : i < 360) : zlald (enc z M) (z + 143) (nI i) = some (M.2.1 143 i) := n_lald (k := 143) rfl hi (by decide)
theorem S143 {z : Nat} {M : PM} {i : Nat} {v : Int64} (hi : i < 360) : zlast (enc z M) (z + 143) (nI i) v = some (enc z (setJ M 143 i v)) := n_last (k := 143) rfl hi (by decide)
theorem A144 {z : Nat} {M : PM} {i : Nat} (hi : i < 60) : zlald (enc z M) (z + 144) (nI i) = some (M.2.1 144 i) := n_lald (k := 144) rfl hi (by decide)
theorem S144 {z : Nat} {M : PM} {i : Nat} {v : Int64} (hi : i < 60) : zlast (enc z M) (z + 144) (nI i) v = some (enc z (setJ M 144 i v)) := n_last (k := 144) rfl hi (by decide)
theorem sh_tape {B : Nat → Nat} {t : Nat} (ht : t < 6) : shp B (114 + 2 * t) = some (.inr (.inl (8, [none, none, some (114 + 2 * t + 1)]))) ∧ shp B (114 + 2 * t + 1) = some (.inl (3, 60)) := by
  rcases (show t = 0 ∨ t = 1 ∨ t = 2 ∨ t = 3 ∨ t = 4 ∨ t = 5 by omega) with rfl | rfl | rfl | rfl | rfl | rfl <;> exact ⟨rfl, rfl⟩
theorem sh_house {B : Nat → Nat} {t : Nat} (ht : t < 6) : shp B (90 + 4 * t) = some (.inr (.inl (5, [none, some (90 + 4 * t + 1), none, some (90 + 4 * t + 2), none, some (B (90 + 4 * t)), none, none, none]))) ∧ shp B (90 + 4 * t + 1) = some (.inl (0, 100)) ∧ shp B (90 + 4 * t + 2) = some (.inl (0, 11)) := by
  rcases (show t = 0 ∨ t = 1 ∨ t = 2 ∨ t = 3 ∨ t = 4 ∨ t = 5 by omega) with rfl | rfl | rfl | rfl | rfl | rfl <;> exact ⟨rfl, rfl, rfl⟩
/-- a House, by its cell -/
def isH (k : Nat) : Prop := k = 79 ∨ ∃ t, t < 6 ∧ k = 90 + 4 * t
theorem sh_H {B : Nat → Nat} {k : Nat} (hk : isH k) : shp B k = some (.inr (.inl (5, [none, some (k + 1), none, some (k + 2), none, some (B k), none, none, none]))) ∧ shp B (k + 1) = some (.inl (0, 100)) ∧ shp B (k + 2) = some (.inl (0, 11)) := by
  rcases hk with rfl | ⟨t, ht, rfl⟩
  · exact ⟨rfl, rfl, rfl⟩
  · exact sh_house ht
theorem sh_seen {B : Nat → Nat} {r : Nat} (hr : r < 5) : shp B (11 + r) = some (.inl (0, 4)) ∧ shp B (46 + r) = some (.inl (0, 4)) := by
  rcases (show r = 0 ∨ r = 1 ∨ r = 2 ∨ r = 3 ∨ r = 4 by omega) with rfl | rfl | rfl | rfl | rfl <;> exact ⟨rfl, rfl⟩
theorem sh_plan {B : Nat → Nat} {r : Nat} (hr : r < 10) : shp B (17 + r) = some (.inl (0, 2)) ∧ shp B (52 + r) = some (.inl (0, 2)) := by
  rcases (show r = 0 ∨ r = 1 ∨ r = 2 ∨ r = 3 ∨ r = 4 ∨ r = 5 ∨ r = 6 ∨ r = 7 ∨ r = 8 ∨ r = 9 by omega) with rfl | rfl | rfl | rfl | rfl | rfl | rfl | rfl | rfl | rfl <;> exact ⟨rfl, rfl⟩
theorem sh_book {B : Nat → Nat} {r : Nat} (hr : r < 8) : shp B (28 + r) = some (.inl (0, 2)) ∧ shp B (63 + r) = some (.inl (0, 2)) := by
  rcases (show r = 0 ∨ r = 1 ∨ r = 2 ∨ r = 3 ∨ r = 4 ∨ r = 5 ∨ r = 6 ∨ r = 7 by omega) with rfl | rfl | rfl | rfl | rfl | rfl | rfl | rfl <;> exact ⟨rfl, rfl⟩
theorem R10 {z : Nat} {M : PM} {i : Nat} (hi : i < 5) : zaald 7 (enc z M) (z + 10) (nI i) = some (z + (11 + i)) := n_aald (k := 10) (os := [11, 12, 13, 14, 15]) rfl (by rcases (show i = 0 ∨ i = 1 ∨ i = 2 ∨ i = 3 ∨ i = 4 by omega) with rfl | rfl | rfl | rfl | rfl <;> rfl) (by omega)
theorem R16 {z : Nat} {M : PM} {i : Nat} (hi : i < 10) : zaald 7 (enc z M) (z + 16) (nI i) = some (z + (17 + i)) := n_aald (k := 16) (os := [17, 18, 19, 20, 21, 22, 23, 24, 25, 26]) rfl (by rcases (show i = 0 ∨ i = 1 ∨ i = 2 ∨ i = 3 ∨ i = 4 ∨ i = 5 ∨ i = 6 ∨ i = 7 ∨ i = 8 ∨ i = 9 by omega) with rfl | rfl | rfl | rfl | rfl | rfl | rfl | rfl | rfl | rfl <;> rfl) (by omega)
theorem R27 {z : Nat} {M : PM} {i : Nat} (hi : i < 8) : zaald 7 (enc z M) (z + 27) (nI i) = some (z + (28 + i)) := n_aald (k := 27) (os := [28, 29, 30, 31, 32, 33, 34, 35]) rfl (by rcases (show i = 0 ∨ i = 1 ∨ i = 2 ∨ i = 3 ∨ i = 4 ∨ i = 5 ∨ i = 6 ∨ i = 7 by omega) with rfl | rfl | rfl | rfl | rfl | rfl | rfl | rfl <;> rfl) (by omega)
theorem R83 {z : Nat} {M : PM} {i : Nat} (hi : i < 6) : zaald 4 (enc z M) (z + 83) (nI i) = some (z + (90 + 4 * i)) := n_aald (k := 83) (os := [90, 94, 98, 102, 106, 110]) rfl (by rcases (show i = 0 ∨ i = 1 ∨ i = 2 ∨ i = 3 ∨ i = 4 ∨ i = 5 by omega) with rfl | rfl | rfl | rfl | rfl | rfl <;> rfl) (by omega)
theorem R87 {z : Nat} {M : PM} {i : Nat} (hi : i < 6) : zaald 6 (enc z M) (z + 87) (nI i) = some (z + (114 + 2 * i)) := n_aald (k := 87) (os := [114, 116, 118, 120, 122, 124]) rfl (by rcases (show i = 0 ∨ i = 1 ∨ i = 2 ∨ i = 3 ∨ i = 4 ∨ i = 5 by omega) with rfl | rfl | rfl | rfl | rfl | rfl <;> rfl) (by omega)
theorem R71 {z : Nat} {M : PM} {i : Nat} (hi : i < 7) : zaald 5 (enc z M) (z + 71) (nI i) = some (z + (72 + i)) := n_aald (k := 71) (os := [72, 73, 74, 75, 76, 77, 78]) rfl (by rcases (show i = 0 ∨ i = 1 ∨ i = 2 ∨ i = 3 ∨ i = 4 ∨ i = 5 ∨ i = 6 by omega) with rfl | rfl | rfl | rfl | rfl | rfl | rfl <;> rfl) (by omega)
