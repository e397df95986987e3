theorem bnd {α β : Type} {x : Option α} {a : α} (e : x = some a) {f : α → Option β} : x.bind f = f a := by rw [e]; rfl
theorem zc {α β : Type} {x : Option (α × AH)} {r : α} {h : AH} (e : x = some (r, h)) {G : α → AH → Option β} : zcall x G = G r h := by rw [e]; rfl
theorem znm_ {α β : Type} {x : α} {k : α → β} : znm x k = k x := rfl
theorem nle_t {a b : Nat} (h : a ≤ b) (hb : b < 2147483648) : (nI a ≤ nI b) = True := eq_true ((nle (by omega) hb).mpr h)
theorem nle_f {a b : Nat} (h : b < a) (hb : a < 2147483648) : (nI a ≤ nI b) = False := eq_false (fun q => by have := (nle hb (by omega)).mp q; omega)
theorem nlt_t {a b : Nat} (h : a < b) (hb : b < 2147483648) : (nI a < nI b) = True := eq_true ((nlt (by omega) hb).mpr h)
theorem nlt_f {a b : Nat} (h : b ≤ a) (hb : a < 2147483648) : (nI a < nI b) = False := eq_false (fun q => by have := (nlt hb (by omega)).mp q; omega)
theorem neq_t {a b : Nat} (h : a = b) : (nI a = nI b) = True := eq_true (by rw [h])
theorem neq_f {a b : Nat} (h : a ≠ b) (ha : a < 2147483648) (hb : b < 2147483648) : (nI a = nI b) = False := eq_false (fun q => h ((neq ha hb).mp q))
theorem O0b {z : Nat} {M : PM} {β : Type} {f : _ → Option β} : (zis (enc z M) z 11).bind f = f () := bnd (O0)
theorem G0_0b {z : Nat} {M : PM} {β : Type} {f : _ → Option β} : (zgR (enc z M) z 11 0).bind f = f (z + 1) := bnd (G0_0)
theorem G0_1b {z : Nat} {M : PM} {β : Type} {f : _ → Option β} : (zgR (enc z M) z 11 1).bind f = f (z + 36) := bnd (G0_1)
theorem G0_2b {z : Nat} {M : PM} {β : Type} {f : _ → Option β} : (zgI (enc z M) z 11 2).bind f = f (M.1 0 2) := bnd (G0_2)
theorem P0_2b {z : Nat} {M : PM} {v : Int32} (hv : v = 0 ∨ v = 1) {β : Type} {f : _ → Option β} : (zputZ (enc z M) z 11 2 v).bind f = f (enc z (setI M 0 2 v)) := bnd (P0_2 hv)
theorem G0_3b {z : Nat} {M : PM} {β : Type} {f : _ → Option β} : (zgR (enc z M) z 11 3).bind f = f (z + 71) := bnd (G0_3)
theorem G0_4b {z : Nat} {M : PM} {β : Type} {f : _ → Option β} : (zgR (enc z M) z 11 4).bind f = f (z + 79) := bnd (G0_4)
theorem G0_5b {z : Nat} {M : PM} {β : Type} {f : _ → Option β} : (zgR (enc z M) z 11 5).bind f = f (z + 83) := bnd (G0_5)
theorem G0_6b {z : Nat} {M : PM} {β : Type} {f : _ → Option β} : (zgI (enc z M) z 11 6).bind f = f (M.1 0 6) := bnd (G0_6)
theorem P0_6b {z : Nat} {M : PM} {v : Int32} {β : Type} {f : _ → Option β} : (zput (enc z M) z 11 6 (.int v)).bind f = f (enc z (setI M 0 6 v)) := bnd (P0_6)
theorem G0_7b {z : Nat} {M : PM} {β : Type} {f : _ → Option β} : (zgR (enc z M) z 11 7).bind f = f (z + 84) := bnd (G0_7)
theorem G0_8b {z : Nat} {M : PM} {β : Type} {f : _ → Option β} : (zgI (enc z M) z 11 8).bind f = f (M.1 0 8) := bnd (G0_8)
theorem P0_8b {z : Nat} {M : PM} {v : Int32} {β : Type} {f : _ → Option β} : (zput (enc z M) z 11 8 (.int v)).bind f = f (enc z (setI M 0 8 v)) := bnd (P0_8)
theorem G0_9b {z : Nat} {M : PM} {β : Type} {f : _ → Option β} : (zgR (enc z M) z 11 9).bind f = f (z + 85) := bnd (G0_9)
theorem G0_10b {z : Nat} {M : PM} {β : Type} {f : _ → Option β} : (zgR (enc z M) z 11 10).bind f = f (z + 87) := bnd (G0_10)
theorem G0_11b {z : Nat} {M : PM} {β : Type} {f : _ → Option β} : (zgR (enc z M) z 11 11).bind f = f (z + 88) := bnd (G0_11)
theorem G0_12b {z : Nat} {M : PM} {β : Type} {f : _ → Option β} : (zgR (enc z M) z 11 12).bind f = f (z + 89) := bnd (G0_12)
theorem O1b {z : Nat} {M : PM} {β : Type} {f : _ → Option β} : (zis (enc z M) (z + 1) 6).bind f = f () := bnd (O1)
theorem G1_0b {z : Nat} {M : PM} {β : Type} {f : _ → Option β} : (zgI (enc z M) (z + 1) 6 0).bind f = f (M.1 1 0) := bnd (G1_0)
theorem P1_0b {z : Nat} {M : PM} {v : Int32} {β : Type} {f : _ → Option β} : (zput (enc z M) (z + 1) 6 0 (.int v)).bind f = f (enc z (setI M 1 0 v)) := bnd (P1_0)
theorem G1_1b {z : Nat} {M : PM} {β : Type} {f : _ → Option β} : (zgR (enc z M) (z + 1) 6 1).bind f = f (z + 2) := bnd (G1_1)
theorem G1_2b {z : Nat} {M : PM} {β : Type} {f : _ → Option β} : (zgR (enc z M) (z + 1) 6 2).bind f = f (z + 3) := bnd (G1_2)
theorem G1_3b {z : Nat} {M : PM} {β : Type} {f : _ → Option β} : (zgR (enc z M) (z + 1) 6 3).bind f = f (z + 4) := bnd (G1_3)
theorem G1_4b {z : Nat} {M : PM} {β : Type} {f : _ → Option β} : (zgR (enc z M) (z + 1) 6 4).bind f = f (z + 5) := bnd (G1_4)
theorem G1_5b {z : Nat} {M : PM} {β : Type} {f : _ → Option β} : (zgI (enc z M) (z + 1) 6 5).bind f = f (M.1 1 5) := bnd (G1_5)
theorem P1_5b {z : Nat} {M : PM} {v : Int32} {β : Type} {f : _ → Option β} : (zput (enc z M) (z + 1) 6 5 (.int v)).bind f = f (enc z (setI M 1 5 v)) := bnd (P1_5)
theorem G1_6b {z : Nat} {M : PM} {β : Type} {f : _ → Option β} : (zgR (enc z M) (z + 1) 6 6).bind f = f (z + 6) := bnd (G1_6)
theorem G1_7b {z : Nat} {M : PM} {β : Type} {f : _ → Option β} : (zgR (enc z M) (z + 1) 6 7).bind f = f (z + 7) := bnd (G1_7)
theorem G1_8b {z : Nat} {M : PM} {β : Type} {f : _ → Option β} : (zgR (enc z M) (z + 1) 6 8).bind f = f (z + 8) := bnd (G1_8)
theorem G1_9b {z : Nat} {M : PM} {β : Type} {f : _ → Option β} : (zgI (enc z M) (z + 1) 6 9).bind f = f (M.1 1 9) := bnd (G1_9)
theorem P1_9b {z : Nat} {M : PM} {v : Int32} {β : Type} {f : _ → Option β} : (zput (enc z M) (z + 1) 6 9 (.int v)).bind f = f (enc z (setI M 1 9 v)) := bnd (P1_9)
theorem G1_10b {z : Nat} {M : PM} {β : Type} {f : _ → Option β} : (zgR (enc z M) (z + 1) 6 10).bind f = f (z + 9) := bnd (G1_10)
theorem G1_11b {z : Nat} {M : PM} {β : Type} {f : _ → Option β} : (zgI (enc z M) (z + 1) 6 11).bind f = f (M.1 1 11) := bnd (G1_11)
theorem P1_11b {z : Nat} {M : PM} {v : Int32} {β : Type} {f : _ → Option β} : (zput (enc z M) (z + 1) 6 11 (.int v)).bind f = f (enc z (setI M 1 11 v)) := bnd (P1_11)
theorem G1_12b {z : Nat} {M : PM} {β : Type} {f : _ → Option β} : (zgI (enc z M) (z + 1) 6 12).bind f = f (M.1 1 12) := bnd (G1_12)
theorem P1_12b {z : Nat} {M : PM} {v : Int32} {β : Type} {f : _ → Option β} : (zput (enc z M) (z + 1) 6 12 (.int v)).bind f = f (enc z (setI M 1 12 v)) := bnd (P1_12)
theorem G1_13b {z : Nat} {M : PM} {β : Type} {f : _ → Option β} : (zgI (enc z M) (z + 1) 6 13).bind f = f (M.1 1 13) := bnd (G1_13)
theorem P1_13b {z : Nat} {M : PM} {v : Int32} {β : Type} {f : _ → Option β} : (zput (enc z M) (z + 1) 6 13 (.int v)).bind f = f (enc z (setI M 1 13 v)) := bnd (P1_13)
theorem G1_14b {z : Nat} {M : PM} {β : Type} {f : _ → Option β} : (zgI (enc z M) (z + 1) 6 14).bind f = f (M.1 1 14) := bnd (G1_14)
theorem P1_14b {z : Nat} {M : PM} {v : Int32} {β : Type} {f : _ → Option β} : (zput (enc z M) (z + 1) 6 14 (.int v)).bind f = f (enc z (setI M 1 14 v)) := bnd (P1_14)
theorem G1_15b {z : Nat} {M : PM} {β : Type} {f : _ → Option β} : (zgR (enc z M) (z + 1) 6 15).bind f = f (z + 10) := bnd (G1_15)
theorem G1_16b {z : Nat} {M : PM} {β : Type} {f : _ → Option β} : (zgI (enc z M) (z + 1) 6 16).bind f = f (M.1 1 16) := bnd (G1_16)
theorem P1_16b {z : Nat} {M : PM} {v : Int32} {β : Type} {f : _ → Option β} : (zput (enc z M) (z + 1) 6 16 (.int v)).bind f = f (enc z (setI M 1 16 v)) := bnd (P1_16)
theorem G1_17b {z : Nat} {M : PM} {β : Type} {f : _ → Option β} : (zgR (enc z M) (z + 1) 6 17).bind f = f (z + 16) := bnd (G1_17)
theorem G1_18b {z : Nat} {M : PM} {β : Type} {f : _ → Option β} : (zgI (enc z M) (z + 1) 6 18).bind f = f (M.1 1 18) := bnd (G1_18)
theorem P1_18b {z : Nat} {M : PM} {v : Int32} {β : Type} {f : _ → Option β} : (zput (enc z M) (z + 1) 6 18 (.int v)).bind f = f (enc z (setI M 1 18 v)) := bnd (P1_18)
theorem G1_19b {z : Nat} {M : PM} {β : Type} {f : _ → Option β} : (zgR (enc z M) (z + 1) 6 19).bind f = f (z + 27) := bnd (G1_19)
theorem O36b {z : Nat} {M : PM} {β : Type} {f : _ → Option β} : (zis (enc z M) (z + 36) 6).bind f = f () := bnd (O36)
theorem G36_0b {z : Nat} {M : PM} {β : Type} {f : _ → Option β} : (zgI (enc z M) (z + 36) 6 0).bind f = f (M.1 36 0) := bnd (G36_0)
theorem P36_0b {z : Nat} {M : PM} {v : Int32} {β : Type} {f : _ → Option β} : (zput (enc z M) (z + 36) 6 0 (.int v)).bind f = f (enc z (setI M 36 0 v)) := bnd (P36_0)
theorem G36_1b {z : Nat} {M : PM} {β : Type} {f : _ → Option β} : (zgR (enc z M) (z + 36) 6 1).bind f = f (z + 37) := bnd (G36_1)
theorem G36_2b {z : Nat} {M : PM} {β : Type} {f : _ → Option β} : (zgR (enc z M) (z + 36) 6 2).bind f = f (z + 38) := bnd (G36_2)
theorem G36_3b {z : Nat} {M : PM} {β : Type} {f : _ → Option β} : (zgR (enc z M) (z + 36) 6 3).bind f = f (z + 39) := bnd (G36_3)
theorem G36_4b {z : Nat} {M : PM} {β : Type} {f : _ → Option β} : (zgR (enc z M) (z + 36) 6 4).bind f = f (z + 40) := bnd (G36_4)
theorem G36_5b {z : Nat} {M : PM} {β : Type} {f : _ → Option β} : (zgI (enc z M) (z + 36) 6 5).bind f = f (M.1 36 5) := bnd (G36_5)
theorem P36_5b {z : Nat} {M : PM} {v : Int32} {β : Type} {f : _ → Option β} : (zput (enc z M) (z + 36) 6 5 (.int v)).bind f = f (enc z (setI M 36 5 v)) := bnd (P36_5)
theorem G36_6b {z : Nat} {M : PM} {β : Type} {f : _ → Option β} : (zgR (enc z M) (z + 36) 6 6).bind f = f (z + 41) := bnd (G36_6)
theorem G36_7b {z : Nat} {M : PM} {β : Type} {f : _ → Option β} : (zgR (enc z M) (z + 36) 6 7).bind f = f (z + 42) := bnd (G36_7)
theorem G36_8b {z : Nat} {M : PM} {β : Type} {f : _ → Option β} : (zgR (enc z M) (z + 36) 6 8).bind f = f (z + 43) := bnd (G36_8)
theorem G36_9b {z : Nat} {M : PM} {β : Type} {f : _ → Option β} : (zgI (enc z M) (z + 36) 6 9).bind f = f (M.1 36 9) := bnd (G36_9)
theorem P36_9b {z : Nat} {M : PM} {v : Int32} {β : Type} {f : _ → Option β} : (zput (enc z M) (z + 36) 6 9 (.int v)).bind f = f (enc z (setI M 36 9 v)) := bnd (P36_9)
theorem G36_10b {z : Nat} {M : PM} {β : Type} {f : _ → Option β} : (zgR (enc z M) (z + 36) 6 10).bind f = f (z + 44) := bnd (G36_10)
theorem G36_11b {z : Nat} {M : PM} {β : Type} {f : _ → Option β} : (zgI (enc z M) (z + 36) 6 11).bind f = f (M.1 36 11) := bnd (G36_11)
theorem P36_11b {z : Nat} {M : PM} {v : Int32} {β : Type} {f : _ → Option β} : (zput (enc z M) (z + 36) 6 11 (.int v)).bind f = f (enc z (setI M 36 11 v)) := bnd (P36_11)
theorem G36_12b {z : Nat} {M : PM} {β : Type} {f : _ → Option β} : (zgI (enc z M) (z + 36) 6 12).bind f = f (M.1 36 12) := bnd (G36_12)
theorem P36_12b {z : Nat} {M : PM} {v : Int32} {β : Type} {f : _ → Option β} : (zput (enc z M) (z + 36) 6 12 (.int v)).bind f = f (enc z (setI M 36 12 v)) := bnd (P36_12)
theorem G36_13b {z : Nat} {M : PM} {β : Type} {f : _ → Option β} : (zgI (enc z M) (z + 36) 6 13).bind f = f (M.1 36 13) := bnd (G36_13)
theorem P36_13b {z : Nat} {M : PM} {v : Int32} {β : Type} {f : _ → Option β} : (zput (enc z M) (z + 36) 6 13 (.int v)).bind f = f (enc z (setI M 36 13 v)) := bnd (P36_13)
theorem G36_14b {z : Nat} {M : PM} {β : Type} {f : _ → Option β} : (zgI (enc z M) (z + 36) 6 14).bind f = f (M.1 36 14) := bnd (G36_14)
theorem P36_14b {z : Nat} {M : PM} {v : Int32} {β : Type} {f : _ → Option β} : (zput (enc z M) (z + 36) 6 14 (.int v)).bind f = f (enc z (setI M 36 14 v)) := bnd (P36_14)
theorem G36_15b {z : Nat} {M : PM} {β : Type} {f : _ → Option β} : (zgR (enc z M) (z + 36) 6 15).bind f = f (z + 45) := bnd (G36_15)
theorem G36_16b {z : Nat} {M : PM} {β : Type} {f : _ → Option β} : (zgI (enc z M) (z + 36) 6 16).bind f = f (M.1 36 16) := bnd (G36_16)
theorem P36_16b {z : Nat} {M : PM} {v : Int32} {β : Type} {f : _ → Option β} : (zput (enc z M) (z + 36) 6 16 (.int v)).bind f = f (enc z (setI M 36 16 v)) := bnd (P36_16)
theorem G36_17b {z : Nat} {M : PM} {β : Type} {f : _ → Option β} : (zgR (enc z M) (z + 36) 6 17).bind f = f (z + 51) := bnd (G36_17)
theorem G36_18b {z : Nat} {M : PM} {β : Type} {f : _ → Option β} : (zgI (enc z M) (z + 36) 6 18).bind f = f (M.1 36 18) := bnd (G36_18)
theorem P36_18b {z : Nat} {M : PM} {v : Int32} {β : Type} {f : _ → Option β} : (zput (enc z M) (z + 36) 6 18 (.int v)).bind f = f (enc z (setI M 36 18 v)) := bnd (P36_18)
theorem G36_19b {z : Nat} {M : PM} {β : Type} {f : _ → Option β} : (zgR (enc z M) (z + 36) 6 19).bind f = f (z + 62) := bnd (G36_19)
theorem O85b {z : Nat} {M : PM} {β : Type} {f : _ → Option β} : (zis (enc z M) (z + 85) 10).bind f = f () := bnd (O85)
theorem G85_0b {z : Nat} {M : PM} {β : Type} {f : _ → Option β} : (zgI (enc z M) (z + 85) 10 0).bind f = f (M.1 85 0) := bnd (G85_0)
theorem P85_0b {z : Nat} {M : PM} {v : Int32} {β : Type} {f : _ → Option β} : (zput (enc z M) (z + 85) 10 0 (.int v)).bind f = f (enc z (setI M 85 0 v)) := bnd (P85_0)
theorem G85_1b {z : Nat} {M : PM} {β : Type} {f : _ → Option β} : (zgI (enc z M) (z + 85) 10 1).bind f = f (M.1 85 1) := bnd (G85_1)
theorem P85_1b {z : Nat} {M : PM} {v : Int32} {β : Type} {f : _ → Option β} : (zput (enc z M) (z + 85) 10 1 (.int v)).bind f = f (enc z (setI M 85 1 v)) := bnd (P85_1)
theorem G85_2b {z : Nat} {M : PM} {β : Type} {f : _ → Option β} : (zgI (enc z M) (z + 85) 10 2).bind f = f (M.1 85 2) := bnd (G85_2)
theorem P85_2b {z : Nat} {M : PM} {v : Int32} {β : Type} {f : _ → Option β} : (zput (enc z M) (z + 85) 10 2 (.int v)).bind f = f (enc z (setI M 85 2 v)) := bnd (P85_2)
theorem G85_3b {z : Nat} {M : PM} {β : Type} {f : _ → Option β} : (zgR (enc z M) (z + 85) 10 3).bind f = f (z + 86) := bnd (G85_3)
theorem O126b {z : Nat} {M : PM} {β : Type} {f : _ → Option β} : (zis (enc z M) (z + 126) 12).bind f = f () := bnd (O126)
theorem G126_0b {z : Nat} {M : PM} {β : Type} {f : _ → Option β} : (zgR (enc z M) (z + 126) 12 0).bind f = f (z + 127) := bnd (G126_0)
theorem G126_1b {z : Nat} {M : PM} {β : Type} {f : _ → Option β} : (zgR (enc z M) (z + 126) 12 1).bind f = f (z + 128) := bnd (G126_1)
theorem G126_2b {z : Nat} {M : PM} {β : Type} {f : _ → Option β} : (zgR (enc z M) (z + 126) 12 2).bind f = f (z + 129) := bnd (G126_2)
theorem G126_3b {z : Nat} {M : PM} {β : Type} {f : _ → Option β} : (zgI (enc z M) (z + 126) 12 3).bind f = f (M.1 126 3) := bnd (G126_3)
theorem P126_3b {z : Nat} {M : PM} {v : Int32} (hv : v = 0 ∨ v = 1) {β : Type} {f : _ → Option β} : (zputZ (enc z M) (z + 126) 12 3 v).bind f = f (enc z (setI M 126 3 v)) := bnd (P126_3 hv)
theorem G126_4b {z : Nat} {M : PM} {β : Type} {f : _ → Option β} : (zgR (enc z M) (z + 126) 12 4).bind f = f (z + 130) := bnd (G126_4)
theorem G126_5b {z : Nat} {M : PM} {β : Type} {f : _ → Option β} : (zgI (enc z M) (z + 126) 12 5).bind f = f (M.1 126 5) := bnd (G126_5)
theorem P126_5b {z : Nat} {M : PM} {v : Int32} {β : Type} {f : _ → Option β} : (zput (enc z M) (z + 126) 12 5 (.int v)).bind f = f (enc z (setI M 126 5 v)) := bnd (P126_5)
theorem G126_6b {z : Nat} {M : PM} {β : Type} {f : _ → Option β} : (zgR (enc z M) (z + 126) 12 6).bind f = f (z + 131) := bnd (G126_6)
theorem G126_7b {z : Nat} {M : PM} {β : Type} {f : _ → Option β} : (zgR (enc z M) (z + 126) 12 7).bind f = f (z + 132) := bnd (G126_7)
theorem G126_8b {z : Nat} {M : PM} {β : Type} {f : _ → Option β} : (zgI (enc z M) (z + 126) 12 8).bind f = f (M.1 126 8) := bnd (G126_8)
theorem P126_8b {z : Nat} {M : PM} {v : Int32} {β : Type} {f : _ → Option β} : (zput (enc z M) (z + 126) 12 8 (.int v)).bind f = f (enc z (setI M 126 8 v)) := bnd (P126_8)
theorem G126_9b {z : Nat} {M : PM} {β : Type} {f : _ → Option β} : (zgR (enc z M) (z + 126) 12 9).bind f = f (z + 133) := bnd (G126_9)
theorem G126_10b {z : Nat} {M : PM} {β : Type} {f : _ → Option β} : (zgI (enc z M) (z + 126) 12 10).bind f = f (M.1 126 10) := bnd (G126_10)
theorem P126_10b {z : Nat} {M : PM} {v : Int32} {β : Type} {f : _ → Option β} : (zput (enc z M) (z + 126) 12 10 (.int v)).bind f = f (enc z (setI M 126 10 v)) := bnd (P126_10)
theorem G126_11b {z : Nat} {M : PM} {β : Type} {f : _ → Option β} : (zgI (enc z M) (z + 126) 12 11).bind f = f (M.1 126 11) := bnd (G126_11)
theorem P126_11b {z : Nat} {M : PM} {v : Int32} {β : Type} {f : _ → Option β} : (zput (enc z M) (z + 126) 12 11 (.int v)).bind f = f (enc z (setI M 126 11 v)) := bnd (P126_11)
theorem G126_12b {z : Nat} {M : PM} {β : Type} {f : _ → Option β} : (zgI (enc z M) (z + 126) 12 12).bind f = f (M.1 126 12) := bnd (G126_12)
theorem P126_12b {z : Nat} {M : PM} {v : Int32} (hv : v = 0 ∨ v = 1) {β : Type} {f : _ → Option β} : (zputZ (enc z M) (z + 126) 12 12 v).bind f = f (enc z (setI M 126 12 v)) := bnd (P126_12 hv)
theorem G126_13b {z : Nat} {M : PM} {β : Type} {f : _ → Option β} : (zgI (enc z M) (z + 126) 12 13).bind f = f (M.1 126 13) := bnd (G126_13)
theorem P126_13b {z : Nat} {M : PM} {v : Int32} {β : Type} {f : _ → Option β} : (zput (enc z M) (z + 126) 12 13 (.int v)).bind f = f (enc z (setI M 126 13 v)) := bnd (P126_13)
theorem G126_14b {z : Nat} {M : PM} {β : Type} {f : _ → Option β} : (zgI (enc z M) (z + 126) 12 14).bind f = f (M.1 126 14) := bnd (G126_14)
theorem P126_14b {z : Nat} {M : PM} {v : Int32} {β : Type} {f : _ → Option β} : (zput (enc z M) (z + 126) 12 14 (.int v)).bind f = f (enc z (setI M 126 14 v)) := bnd (P126_14)
theorem G126_15b {z : Nat} {M : PM} {β : Type} {f : _ → Option β} : (zgI (enc z M) (z + 126) 12 15).bind f = f (M.1 126 15) := bnd (G126_15)
theorem P126_15b {z : Nat} {M : PM} {v : Int32} {β : Type} {f : _ → Option β} : (zput (enc z M) (z + 126) 12 15 (.int v)).bind f = f (enc z (setI M 126 15 v)) := bnd (P126_15)
theorem G126_16b {z : Nat} {M : PM} {β : Type} {f : _ → Option β} : (zgR (enc z M) (z + 126) 12 16).bind f = f (z + 134) := bnd (G126_16)
theorem G126_17b {z : Nat} {M : PM} {β : Type} {f : _ → Option β} : (zgR (enc z M) (z + 126) 12 17).bind f = f (z + 135) := bnd (G126_17)
theorem G126_18b {z : Nat} {M : PM} {β : Type} {f : _ → Option β} : (zgR (enc z M) (z + 126) 12 18).bind f = f (z + 136) := bnd (G126_18)
theorem G126_19b {z : Nat} {M : PM} {β : Type} {f : _ → Option β} : (zgR (enc z M) (z + 126) 12 19).bind f = f (z + 137) := bnd (G126_19)
theorem G126_20b {z : Nat} {M : PM} {β : Type} {f : _ → Option β} : (zgR (enc z M) (z + 126) 12 20).bind f = f (z + 138) := bnd (G126_20)
theorem G126_21b {z : Nat} {M : PM} {β : Type} {f : _ → Option β} : (zgR (enc z M) (z + 126) 12 21).bind f = f (z + 139) := bnd (G126_21)
theorem G126_22b {z : Nat} {M : PM} {β : Type} {f : _ → Option β} : (zgR (enc z M) (z + 126) 12 22).bind f = f (z + 140) := bnd (G126_22)
theorem G126_23b {z : Nat} {M : PM} {β : Type} {f : _ → Option β} : (zgI (enc z M) (z + 126) 12 23).bind f = f (M.1 126 23) := bnd (G126_23)
theorem P126_23b {z : Nat} {M : PM} {v : Int32} {β : Type} {f : _ → Option β} : (zput (enc z M) (z + 126) 12 23 (.int v)).bind f = f (enc z (setI M 126 23 v)) := bnd (P126_23)
theorem G126_24b {z : Nat} {M : PM} {β : Type} {f : _ → Option β} : (zgR (enc z M) (z + 126) 12 24).bind f = f (z + 141) := bnd (G126_24)
theorem G126_25b {z : Nat} {M : PM} {β : Type} {f : _ → Option β} : (zgR (enc z M) (z + 126) 12 25).bind f = f (z + 142) := bnd (G126_25)
theorem G126_26b {z : Nat} {M : PM} {β : Type} {f : _ → Option β} : (zgR (enc z M) (z + 126) 12 26).bind f = f (z + 143) := bnd (G126_26)
theorem G126_27b {z : Nat} {M : PM} {β : Type} {f : _ → Option β} : (zgR (enc z M) (z + 126) 12 27).bind f = f (z + 144) := bnd (G126_27)
theorem A2b {z : Nat} {M : PM} {i : Nat} (hi : i < 6) {β : Type} {f : _ → Option β} : (zald 0 (enc z M) (z + 2) (nI i)).bind f = f (M.1 2 i) := bnd (A2 hi)
theorem S2b {z : Nat} {M : PM} {i : Nat} {v : Int32} (hi : i < 6) {β : Type} {f : _ → Option β} : (zast 0 (enc z M) (z + 2) (nI i) v).bind f = f (enc z (setI M 2 i v)) := bnd (S2 hi)
theorem N2b {z : Nat} {M : PM} {β : Type} {f : _ → Option β} : (zlen (enc z M) (z + 2)).bind f = f (nI 6) := bnd (N2)
theorem A3b {z : Nat} {M : PM} {i : Nat} (hi : i < 6) {β : Type} {f : _ → Option β} : (zald 0 (enc z M) (z + 3) (nI i)).bind f = f (M.1 3 i) := bnd (A3 hi)
theorem S3b {z : Nat} {M : PM} {i : Nat} {v : Int32} (hi : i < 6) {β : Type} {f : _ → Option β} : (zast 0 (enc z M) (z + 3) (nI i) v).bind f = f (enc z (setI M 3 i v)) := bnd (S3 hi)
theorem N3b {z : Nat} {M : PM} {β : Type} {f : _ → Option β} : (zlen (enc z M) (z + 3)).bind f = f (nI 6) := bnd (N3)
theorem A4b {z : Nat} {M : PM} {i : Nat} (hi : i < 6) {β : Type} {f : _ → Option β} : (zald 0 (enc z M) (z + 4) (nI i)).bind f = f (M.1 4 i) := bnd (A4 hi)
theorem S4b {z : Nat} {M : PM} {i : Nat} {v : Int32} (hi : i < 6) {β : Type} {f : _ → Option β} : (zast 0 (enc z M) (z + 4) (nI i) v).bind f = f (enc z (setI M 4 i v)) := bnd (S4 hi)
theorem N4b {z : Nat} {M : PM} {β : Type} {f : _ → Option β} : (zlen (enc z M) (z + 4)).bind f = f (nI 6) := bnd (N4)
theorem A5b {z : Nat} {M : PM} {i : Nat} (hi : i < 24) {β : Type} {f : _ → Option β} : (zald 0 (enc z M) (z + 5) (nI i)).bind f = f (M.1 5 i) := bnd (A5 hi)
theorem A5m {z : Nat} {M : PM} {a b : Nat} (hi : a * b < 24) {β : Type} {f : _ → Option β} : (zald 0 (enc z M) (z + 5) (nI a * nI b)).bind f = f (M.1 5 (a * b)) := by
  have e : nI a * nI b = nI (a * b) := by simp only [nI_add, pk_mul]
  rw [e]; exact bnd (A5 hi)
theorem A5p {z : Nat} {M : PM} {a b : Nat} (hi : a + b < 24) {β : Type} {f : _ → Option β} : (zald 0 (enc z M) (z + 5) (nI a + nI b)).bind f = f (M.1 5 (a + b)) := by
  have e : nI a + nI b = nI (a + b) := by simp only [nI_add, pk_mul]
  rw [e]; exact bnd (A5 hi)
theorem A5mp {z : Nat} {M : PM} {a b c : Nat} (hi : a * b + c < 24) {β : Type} {f : _ → Option β} : (zald 0 (enc z M) (z + 5) (nI a * nI b + nI c)).bind f = f (M.1 5 (a * b + c)) := by
  have e : nI a * nI b + nI c = nI (a * b + c) := by simp only [nI_add, pk_mul]
  rw [e]; exact bnd (A5 hi)
theorem A5pm {z : Nat} {M : PM} {a b c : Nat} (hi : a + b * c < 24) {β : Type} {f : _ → Option β} : (zald 0 (enc z M) (z + 5) (nI a + nI b * nI c)).bind f = f (M.1 5 (a + b * c)) := by
  have e : nI a + nI b * nI c = nI (a + b * c) := by simp only [nI_add, pk_mul]
  rw [e]; exact bnd (A5 hi)
theorem A5pmp {z : Nat} {M : PM} {a b c d : Nat} (hi : a + b * c + d < 24) {β : Type} {f : _ → Option β} : (zald 0 (enc z M) (z + 5) (nI a + nI b * nI c + nI d)).bind f = f (M.1 5 (a + b * c + d)) := by
  have e : nI a + nI b * nI c + nI d = nI (a + b * c + d) := by simp only [nI_add, pk_mul]
  rw [e]; exact bnd (A5 hi)
theorem A5mpp {z : Nat} {M : PM} {a b c d : Nat} (hi : a * b + c + d < 24) {β : Type} {f : _ → Option β} : (zald 0 (enc z M) (z + 5) (nI a * nI b + nI c + nI d)).bind f = f (M.1 5 (a * b + c + d)) := by
  have e : nI a * nI b + nI c + nI d = nI (a * b + c + d) := by simp only [nI_add, pk_mul]
  rw [e]; exact bnd (A5 hi)
theorem A5pp {z : Nat} {M : PM} {a b c : Nat} (hi : a + b + c < 24) {β : Type} {f : _ → Option β} : (zald 0 (enc z M) (z + 5) (nI a + nI b + nI c)).bind f = f (M.1 5 (a + b + c)) := by
  have e : nI a + nI b + nI c = nI (a + b + c) := by simp only [nI_add, pk_mul]
  rw [e]; exact bnd (A5 hi)
theorem S5b {z : Nat} {M : PM} {i : Nat} {v : Int32} (hi : i < 24) {β : Type} {f : _ → Option β} : (zast 0 (enc z M) (z + 5) (nI i) v).bind f = f (enc z (setI M 5 i v)) := bnd (S5 hi)
theorem S5m {z : Nat} {M : PM} {a b : Nat} {v : Int32} (hi : a * b < 24) {β : Type} {f : _ → Option β} : (zast 0 (enc z M) (z + 5) (nI a * nI b) v).bind f = f (enc z (setI M 5 (a * b) v)) := by
  have e : nI a * nI b = nI (a * b) := by simp only [nI_add, pk_mul]
  rw [e]; exact bnd (S5 hi)
theorem S5p {z : Nat} {M : PM} {a b : Nat} {v : Int32} (hi : a + b < 24) {β : Type} {f : _ → Option β} : (zast 0 (enc z M) (z + 5) (nI a + nI b) v).bind f = f (enc z (setI M 5 (a + b) v)) := by
  have e : nI a + nI b = nI (a + b) := by simp only [nI_add, pk_mul]
  rw [e]; exact bnd (S5 hi)
theorem S5mp {z : Nat} {M : PM} {a b c : Nat} {v : Int32} (hi : a * b + c < 24) {β : Type} {f : _ → Option β} : (zast 0 (enc z M) (z + 5) (nI a * nI b + nI c) v).bind f = f (enc z (setI M 5 (a * b + c) v)) := by
  have e : nI a * nI b + nI c = nI (a * b + c) := by simp only [nI_add, pk_mul]
  rw [e]; exact bnd (S5 hi)
theorem S5pm {z : Nat} {M : PM} {a b c : Nat} {v : Int32} (hi : a + b * c < 24) {β : Type} {f : _ → Option β} : (zast 0 (enc z M) (z + 5) (nI a + nI b * nI c) v).bind f = f (enc z (setI M 5 (a + b * c) v)) := by
  have e : nI a + nI b * nI c = nI (a + b * c) := by simp only [nI_add, pk_mul]
  rw [e]; exact bnd (S5 hi)
theorem S5pmp {z : Nat} {M : PM} {a b c d : Nat} {v : Int32} (hi : a + b * c + d < 24) {β : Type} {f : _ → Option β} : (zast 0 (enc z M) (z + 5) (nI a + nI b * nI c + nI d) v).bind f = f (enc z (setI M 5 (a + b * c + d) v)) := by
  have e : nI a + nI b * nI c + nI d = nI (a + b * c + d) := by simp only [nI_add, pk_mul]
  rw [e]; exact bnd (S5 hi)
theorem S5mpp {z : Nat} {M : PM} {a b c d : Nat} {v : Int32} (hi : a * b + c + d < 24) {β : Type} {f : _ → Option β} : (zast 0 (enc z M) (z + 5) (nI a * nI b + nI c + nI d) v).bind f = f (enc z (setI M 5 (a * b + c + d) v)) := by
  have e : nI a * nI b + nI c + nI d = nI (a * b + c + d) := by simp only [nI_add, pk_mul]
  rw [e]; exact bnd (S5 hi)
theorem S5pp {z : Nat} {M : PM} {a b c : Nat} {v : Int32} (hi : a + b + c < 24) {β : Type} {f : _ → Option β} : (zast 0 (enc z M) (z + 5) (nI a + nI b + nI c) v).bind f = f (enc z (setI M 5 (a + b + c) v)) := by
  have e : nI a + nI b + nI c = nI (a + b + c) := by simp only [nI_add, pk_mul]
  rw [e]; exact bnd (S5 hi)
theorem N5b {z : Nat} {M : PM} {β : Type} {f : _ → Option β} : (zlen (enc z M) (z + 5)).bind f = f (nI 24) := bnd (N5)
theorem A6b {z : Nat} {M : PM} {i : Nat} (hi : i < 8) {β : Type} {f : _ → Option β} : (zald 0 (enc z M) (z + 6) (nI i)).bind f = f (M.1 6 i) := bnd (A6 hi)
theorem S6b {z : Nat} {M : PM} {i : Nat} {v : Int32} (hi : i < 8) {β : Type} {f : _ → Option β} : (zast 0 (enc z M) (z + 6) (nI i) v).bind f = f (enc z (setI M 6 i v)) := bnd (S6 hi)
theorem N6b {z : Nat} {M : PM} {β : Type} {f : _ → Option β} : (zlen (enc z M) (z + 6)).bind f = f (nI 8) := bnd (N6)
theorem A7b {z : Nat} {M : PM} {i : Nat} (hi : i < 8) {β : Type} {f : _ → Option β} : (zald 0 (enc z M) (z + 7) (nI i)).bind f = f (M.1 7 i) := bnd (A7 hi)
theorem S7b {z : Nat} {M : PM} {i : Nat} {v : Int32} (hi : i < 8) {β : Type} {f : _ → Option β} : (zast 0 (enc z M) (z + 7) (nI i) v).bind f = f (enc z (setI M 7 i v)) := bnd (S7 hi)
theorem N7b {z : Nat} {M : PM} {β : Type} {f : _ → Option β} : (zlen (enc z M) (z + 7)).bind f = f (nI 8) := bnd (N7)
theorem A8b {z : Nat} {M : PM} {i : Nat} (hi : i < 8) {β : Type} {f : _ → Option β} : (zald 0 (enc z M) (z + 8) (nI i)).bind f = f (M.1 8 i) := bnd (A8 hi)
theorem S8b {z : Nat} {M : PM} {i : Nat} {v : Int32} (hi : i < 8) {β : Type} {f : _ → Option β} : (zast 0 (enc z M) (z + 8) (nI i) v).bind f = f (enc z (setI M 8 i v)) := bnd (S8 hi)
theorem N8b {z : Nat} {M : PM} {β : Type} {f : _ → Option β} : (zlen (enc z M) (z + 8)).bind f = f (nI 8) := bnd (N8)
theorem A9b {z : Nat} {M : PM} {i : Nat} (hi : i < 5) {β : Type} {f : _ → Option β} : (zald 0 (enc z M) (z + 9) (nI i)).bind f = f (M.1 9 i) := bnd (A9 hi)
theorem S9b {z : Nat} {M : PM} {i : Nat} {v : Int32} (hi : i < 5) {β : Type} {f : _ → Option β} : (zast 0 (enc z M) (z + 9) (nI i) v).bind f = f (enc z (setI M 9 i v)) := bnd (S9 hi)
theorem N9b {z : Nat} {M : PM} {β : Type} {f : _ → Option β} : (zlen (enc z M) (z + 9)).bind f = f (nI 5) := bnd (N9)
theorem A37b {z : Nat} {M : PM} {i : Nat} (hi : i < 6) {β : Type} {f : _ → Option β} : (zald 0 (enc z M) (z + 37) (nI i)).bind f = f (M.1 37 i) := bnd (A37 hi)
theorem S37b {z : Nat} {M : PM} {i : Nat} {v : Int32} (hi : i < 6) {β : Type} {f : _ → Option β} : (zast 0 (enc z M) (z + 37) (nI i) v).bind f = f (enc z (setI M 37 i v)) := bnd (S37 hi)
theorem N37b {z : Nat} {M : PM} {β : Type} {f : _ → Option β} : (zlen (enc z M) (z + 37)).bind f = f (nI 6) := bnd (N37)
theorem A38b {z : Nat} {M : PM} {i : Nat} (hi : i < 6) {β : Type} {f : _ → Option β} : (zald 0 (enc z M) (z + 38) (nI i)).bind f = f (M.1 38 i) := bnd (A38 hi)
theorem S38b {z : Nat} {M : PM} {i : Nat} {v : Int32} (hi : i < 6) {β : Type} {f : _ → Option β} : (zast 0 (enc z M) (z + 38) (nI i) v).bind f = f (enc z (setI M 38 i v)) := bnd (S38 hi)
theorem N38b {z : Nat} {M : PM} {β : Type} {f : _ → Option β} : (zlen (enc z M) (z + 38)).bind f = f (nI 6) := bnd (N38)
theorem A39b {z : Nat} {M : PM} {i : Nat} (hi : i < 6) {β : Type} {f : _ → Option β} : (zald 0 (enc z M) (z + 39) (nI i)).bind f = f (M.1 39 i) := bnd (A39 hi)
theorem S39b {z : Nat} {M : PM} {i : Nat} {v : Int32} (hi : i < 6) {β : Type} {f : _ → Option β} : (zast 0 (enc z M) (z + 39) (nI i) v).bind f = f (enc z (setI M 39 i v)) := bnd (S39 hi)
theorem N39b {z : Nat} {M : PM} {β : Type} {f : _ → Option β} : (zlen (enc z M) (z + 39)).bind f = f (nI 6) := bnd (N39)
theorem A40b {z : Nat} {M : PM} {i : Nat} (hi : i < 24) {β : Type} {f : _ → Option β} : (zald 0 (enc z M) (z + 40) (nI i)).bind f = f (M.1 40 i) := bnd (A40 hi)
theorem S40b {z : Nat} {M : PM} {i : Nat} {v : Int32} (hi : i < 24) {β : Type} {f : _ → Option β} : (zast 0 (enc z M) (z + 40) (nI i) v).bind f = f (enc z (setI M 40 i v)) := bnd (S40 hi)
theorem N40b {z : Nat} {M : PM} {β : Type} {f : _ → Option β} : (zlen (enc z M) (z + 40)).bind f = f (nI 24) := bnd (N40)
theorem A41b {z : Nat} {M : PM} {i : Nat} (hi : i < 8) {β : Type} {f : _ → Option β} : (zald 0 (enc z M) (z + 41) (nI i)).bind f = f (M.1 41 i) := bnd (A41 hi)
theorem S41b {z : Nat} {M : PM} {i : Nat} {v : Int32} (hi : i < 8) {β : Type} {f : _ → Option β} : (zast 0 (enc z M) (z + 41) (nI i) v).bind f = f (enc z (setI M 41 i v)) := bnd (S41 hi)
theorem N41b {z : Nat} {M : PM} {β : Type} {f : _ → Option β} : (zlen (enc z M) (z + 41)).bind f = f (nI 8) := bnd (N41)
theorem A42b {z : Nat} {M : PM} {i : Nat} (hi : i < 8) {β : Type} {f : _ → Option β} : (zald 0 (enc z M) (z + 42) (nI i)).bind f = f (M.1 42 i) := bnd (A42 hi)
theorem S42b {z : Nat} {M : PM} {i : Nat} {v : Int32} (hi : i < 8) {β : Type} {f : _ → Option β} : (zast 0 (enc z M) (z + 42) (nI i) v).bind f = f (enc z (setI M 42 i v)) := bnd (S42 hi)
theorem N42b {z : Nat} {M : PM} {β : Type} {f : _ → Option β} : (zlen (enc z M) (z + 42)).bind f = f (nI 8) := bnd (N42)
theorem A43b {z : Nat} {M : PM} {i : Nat} (hi : i < 8) {β : Type} {f : _ → Option β} : (zald 0 (enc z M) (z + 43) (nI i)).bind f = f (M.1 43 i) := bnd (A43 hi)
theorem S43b {z : Nat} {M : PM} {i : Nat} {v : Int32} (hi : i < 8) {β : Type} {f : _ → Option β} : (zast 0 (enc z M) (z + 43) (nI i) v).bind f = f (enc z (setI M 43 i v)) := bnd (S43 hi)
theorem N43b {z : Nat} {M : PM} {β : Type} {f : _ → Option β} : (zlen (enc z M) (z + 43)).bind f = f (nI 8) := bnd (N43)
theorem A44b {z : Nat} {M : PM} {i : Nat} (hi : i < 5) {β : Type} {f : _ → Option β} : (zald 0 (enc z M) (z + 44) (nI i)).bind f = f (M.1 44 i) := bnd (A44 hi)
theorem S44b {z : Nat} {M : PM} {i : Nat} {v : Int32} (hi : i < 5) {β : Type} {f : _ → Option β} : (zast 0 (enc z M) (z + 44) (nI i) v).bind f = f (enc z (setI M 44 i v)) := bnd (S44 hi)
theorem N44b {z : Nat} {M : PM} {β : Type} {f : _ → Option β} : (zlen (enc z M) (z + 44)).bind f = f (nI 5) := bnd (N44)
theorem A84b {z : Nat} {M : PM} {i : Nat} (hi : i < 100) {β : Type} {f : _ → Option β} : (zald 1 (enc z M) (z + 84) (nI i)).bind f = f (M.1 84 i) := bnd (A84 hi)
theorem S84b {z : Nat} {M : PM} {i : Nat} {v : Int32} (hi : i < 100) {β : Type} {f : _ → Option β} : (zast 1 (enc z M) (z + 84) (nI i) v).bind f = f (enc z (setI M 84 i v)) := bnd (S84 hi)
theorem N84b {z : Nat} {M : PM} {β : Type} {f : _ → Option β} : (zlen (enc z M) (z + 84)).bind f = f (nI 100) := bnd (N84)
theorem A86b {z : Nat} {M : PM} {i : Nat} (hi : i < 20) {β : Type} {f : _ → Option β} : (zald 0 (enc z M) (z + 86) (nI i)).bind f = f (M.1 86 i) := bnd (A86 hi)
theorem S86b {z : Nat} {M : PM} {i : Nat} {v : Int32} (hi : i < 20) {β : Type} {f : _ → Option β} : (zast 0 (enc z M) (z + 86) (nI i) v).bind f = f (enc z (setI M 86 i v)) := bnd (S86 hi)
theorem N86b {z : Nat} {M : PM} {β : Type} {f : _ → Option β} : (zlen (enc z M) (z + 86)).bind f = f (nI 20) := bnd (N86)
theorem A88b {z : Nat} {M : PM} {i : Nat} (hi : i < 8) {β : Type} {f : _ → Option β} : (zald 0 (enc z M) (z + 88) (nI i)).bind f = f (M.1 88 i) := bnd (A88 hi)
theorem S88b {z : Nat} {M : PM} {i : Nat} {v : Int32} (hi : i < 8) {β : Type} {f : _ → Option β} : (zast 0 (enc z M) (z + 88) (nI i) v).bind f = f (enc z (setI M 88 i v)) := bnd (S88 hi)
theorem N88b {z : Nat} {M : PM} {β : Type} {f : _ → Option β} : (zlen (enc z M) (z + 88)).bind f = f (nI 8) := bnd (N88)
theorem A89b {z : Nat} {M : PM} {i : Nat} (hi : i < 6) {β : Type} {f : _ → Option β} : (zald 0 (enc z M) (z + 89) (nI i)).bind f = f (M.1 89 i) := bnd (A89 hi)
theorem S89b {z : Nat} {M : PM} {i : Nat} {v : Int32} (hi : i < 6) {β : Type} {f : _ → Option β} : (zast 0 (enc z M) (z + 89) (nI i) v).bind f = f (enc z (setI M 89 i v)) := bnd (S89 hi)
theorem N89b {z : Nat} {M : PM} {β : Type} {f : _ → Option β} : (zlen (enc z M) (z + 89)).bind f = f (nI 6) := bnd (N89)
theorem A127b {z : Nat} {M : PM} {i : Nat} (hi : i < 140) {β : Type} {f : _ → Option β} : (zald 0 (enc z M) (z + 127) (nI i)).bind f = f (M.1 127 i) := bnd (A127 hi)
theorem A127m {z : Nat} {M : PM} {a b : Nat} (hi : a * b < 140) {β : Type} {f : _ → Option β} : (zald 0 (enc z M) (z + 127) (nI a * nI b)).bind f = f (M.1 127 (a * b)) := by
  have e : nI a * nI b = nI (a * b) := by simp only [nI_add, pk_mul]
  rw [e]; exact bnd (A127 hi)
theorem A127p {z : Nat} {M : PM} {a b : Nat} (hi : a + b < 140) {β : Type} {f : _ → Option β} : (zald 0 (enc z M) (z + 127) (nI a + nI b)).bind f = f (M.1 127 (a + b)) := by
  have e : nI a + nI b = nI (a + b) := by simp only [nI_add, pk_mul]
  rw [e]; exact bnd (A127 hi)
theorem A127mp {z : Nat} {M : PM} {a b c : Nat} (hi : a * b + c < 140) {β : Type} {f : _ → Option β} : (zald 0 (enc z M) (z + 127) (nI a * nI b + nI c)).bind f = f (M.1 127 (a * b + c)) := by
  have e : nI a * nI b + nI c = nI (a * b + c) := by simp only [nI_add, pk_mul]
  rw [e]; exact bnd (A127 hi)
theorem A127pm {z : Nat} {M : PM} {a b c : Nat} (hi : a + b * c < 140) {β : Type} {f : _ → Option β} : (zald 0 (enc z M) (z + 127) (nI a + nI b * nI c)).bind f = f (M.1 127 (a + b * c)) := by
  have e : nI a + nI b * nI c = nI (a + b * c) := by simp only [nI_add, pk_mul]
  rw [e]; exact bnd (A127 hi)
theorem A127pmp {z : Nat} {M : PM} {a b c d : Nat} (hi : a + b * c + d < 140) {β : Type} {f : _ → Option β} : (zald 0 (enc z M) (z + 127) (nI a + nI b * nI c + nI d)).bind f = f (M.1 127 (a + b * c + d)) := by
  have e : nI a + nI b * nI c + nI d = nI (a + b * c + d) := by simp only [nI_add, pk_mul]
  rw [e]; exact bnd (A127 hi)
theorem A127mpp {z : Nat} {M : PM} {a b c d : Nat} (hi : a * b + c + d < 140) {β : Type} {f : _ → Option β} : (zald 0 (enc z M) (z + 127) (nI a * nI b + nI c + nI d)).bind f = f (M.1 127 (a * b + c + d)) := by
  have e : nI a * nI b + nI c + nI d = nI (a * b + c + d) := by simp only [nI_add, pk_mul]
  rw [e]; exact bnd (A127 hi)
theorem A127pp {z : Nat} {M : PM} {a b c : Nat} (hi : a + b + c < 140) {β : Type} {f : _ → Option β} : (zald 0 (enc z M) (z + 127) (nI a + nI b + nI c)).bind f = f (M.1 127 (a + b + c)) := by
  have e : nI a + nI b + nI c = nI (a + b + c) := by simp only [nI_add, pk_mul]
  rw [e]; exact bnd (A127 hi)
theorem S127b {z : Nat} {M : PM} {i : Nat} {v : Int32} (hi : i < 140) {β : Type} {f : _ → Option β} : (zast 0 (enc z M) (z + 127) (nI i) v).bind f = f (enc z (setI M 127 i v)) := bnd (S127 hi)
theorem S127m {z : Nat} {M : PM} {a b : Nat} {v : Int32} (hi : a * b < 140) {β : Type} {f : _ → Option β} : (zast 0 (enc z M) (z + 127) (nI a * nI b) v).bind f = f (enc z (setI M 127 (a * b) v)) := by
  have e : nI a * nI b = nI (a * b) := by simp only [nI_add, pk_mul]
  rw [e]; exact bnd (S127 hi)
theorem S127p {z : Nat} {M : PM} {a b : Nat} {v : Int32} (hi : a + b < 140) {β : Type} {f : _ → Option β} : (zast 0 (enc z M) (z + 127) (nI a + nI b) v).bind f = f (enc z (setI M 127 (a + b) v)) := by
  have e : nI a + nI b = nI (a + b) := by simp only [nI_add, pk_mul]
  rw [e]; exact bnd (S127 hi)
theorem S127mp {z : Nat} {M : PM} {a b c : Nat} {v : Int32} (hi : a * b + c < 140) {β : Type} {f : _ → Option β} : (zast 0 (enc z M) (z + 127) (nI a * nI b + nI c) v).bind f = f (enc z (setI M 127 (a * b + c) v)) := by
  have e : nI a * nI b + nI c = nI (a * b + c) := by simp only [nI_add, pk_mul]
  rw [e]; exact bnd (S127 hi)
theorem S127pm {z : Nat} {M : PM} {a b c : Nat} {v : Int32} (hi : a + b * c < 140) {β : Type} {f : _ → Option β} : (zast 0 (enc z M) (z + 127) (nI a + nI b * nI c) v).bind f = f (enc z (setI M 127 (a + b * c) v)) := by
  have e : nI a + nI b * nI c = nI (a + b * c) := by simp only [nI_add, pk_mul]
  rw [e]; exact bnd (S127 hi)
theorem S127pmp {z : Nat} {M : PM} {a b c d : Nat} {v : Int32} (hi : a + b * c + d < 140) {β : Type} {f : _ → Option β} : (zast 0 (enc z M) (z + 127) (nI a + nI b * nI c + nI d) v).bind f = f (enc z (setI M 127 (a + b * c + d) v)) := by
  have e : nI a + nI b * nI c + nI d = nI (a + b * c + d) := by simp only [nI_add, pk_mul]
  rw [e]; exact bnd (S127 hi)
theorem S127mpp {z : Nat} {M : PM} {a b c d : Nat} {v : Int32} (hi : a * b + c + d < 140) {β : Type} {f : _ → Option β} : (zast 0 (enc z M) (z + 127) (nI a * nI b + nI c + nI d) v).bind f = f (enc z (setI M 127 (a * b + c + d) v)) := by
  have e : nI a * nI b + nI c + nI d = nI (a * b + c + d) := by simp only [nI_add, pk_mul]
  rw [e]; exact bnd (S127 hi)
theorem S127pp {z : Nat} {M : PM} {a b c : Nat} {v : Int32} (hi : a + b + c < 140) {β : Type} {f : _ → Option β} : (zast 0 (enc z M) (z + 127) (nI a + nI b + nI c) v).bind f = f (enc z (setI M 127 (a + b + c) v)) := by
  have e : nI a + nI b + nI c = nI (a + b + c) := by simp only [nI_add, pk_mul]
  rw [e]; exact bnd (S127 hi)
theorem N127b {z : Nat} {M : PM} {β : Type} {f : _ → Option β} : (zlen (enc z M) (z + 127)).bind f = f (nI 140) := bnd (N127)
theorem A128b {z : Nat} {M : PM} {i : Nat} (hi : i < 140) {β : Type} {f : _ → Option β} : (zald 0 (enc z M) (z + 128) (nI i)).bind f = f (M.1 128 i) := bnd (A128 hi)
theorem S128b {z : Nat} {M : PM} {i : Nat} {v : Int32} (hi : i < 140) {β : Type} {f : _ → Option β} : (zast 0 (enc z M) (z + 128) (nI i) v).bind f = f (enc z (setI M 128 i v)) := bnd (S128 hi)
theorem N128b {z : Nat} {M : PM} {β : Type} {f : _ → Option β} : (zlen (enc z M) (z + 128)).bind f = f (nI 140) := bnd (N128)
theorem A129b {z : Nat} {M : PM} {i : Nat} (hi : i < 140) {β : Type} {f : _ → Option β} : (zald 0 (enc z M) (z + 129) (nI i)).bind f = f (M.1 129 i) := bnd (A129 hi)
theorem S129b {z : Nat} {M : PM} {i : Nat} {v : Int32} (hi : i < 140) {β : Type} {f : _ → Option β} : (zast 0 (enc z M) (z + 129) (nI i) v).bind f = f (enc z (setI M 129 i v)) := bnd (S129 hi)
theorem N129b {z : Nat} {M : PM} {β : Type} {f : _ → Option β} : (zlen (enc z M) (z + 129)).bind f = f (nI 140) := bnd (N129)
theorem A130b {z : Nat} {M : PM} {i : Nat} (hi : i < 100) {β : Type} {f : _ → Option β} : (zald 0 (enc z M) (z + 130) (nI i)).bind f = f (M.1 130 i) := bnd (A130 hi)
theorem S130b {z : Nat} {M : PM} {i : Nat} {v : Int32} (hi : i < 100) {β : Type} {f : _ → Option β} : (zast 0 (enc z M) (z + 130) (nI i) v).bind f = f (enc z (setI M 130 i v)) := bnd (S130 hi)
theorem N130b {z : Nat} {M : PM} {β : Type} {f : _ → Option β} : (zlen (enc z M) (z + 130)).bind f = f (nI 100) := bnd (N130)
theorem A131b {z : Nat} {M : PM} {i : Nat} (hi : i < 600) {β : Type} {f : _ → Option β} : (zald 0 (enc z M) (z + 131) (nI i)).bind f = f (M.1 131 i) := bnd (A131 hi)
theorem A131m {z : Nat} {M : PM} {a b : Nat} (hi : a * b < 600) {β : Type} {f : _ → Option β} : (zald 0 (enc z M) (z + 131) (nI a * nI b)).bind f = f (M.1 131 (a * b)) := by
  have e : nI a * nI b = nI (a * b) := by simp only [nI_add, pk_mul]
  rw [e]; exact bnd (A131 hi)
theorem A131p {z : Nat} {M : PM} {a b : Nat} (hi : a + b < 600) {β : Type} {f : _ → Option β} : (zald 0 (enc z M) (z + 131) (nI a + nI b)).bind f = f (M.1 131 (a + b)) := by
  have e : nI a + nI b = nI (a + b) := by simp only [nI_add, pk_mul]
  rw [e]; exact bnd (A131 hi)
theorem A131mp {z : Nat} {M : PM} {a b c : Nat} (hi : a * b + c < 600) {β : Type} {f : _ → Option β} : (zald 0 (enc z M) (z + 131) (nI a * nI b + nI c)).bind f = f (M.1 131 (a * b + c)) := by
  have e : nI a * nI b + nI c = nI (a * b + c) := by simp only [nI_add, pk_mul]
  rw [e]; exact bnd (A131 hi)
theorem A131pm {z : Nat} {M : PM} {a b c : Nat} (hi : a + b * c < 600) {β : Type} {f : _ → Option β} : (zald 0 (enc z M) (z + 131) (nI a + nI b * nI c)).bind f = f (M.1 131 (a + b * c)) := by
  have e : nI a + nI b * nI c = nI (a + b * c) := by simp only [nI_add, pk_mul]
  rw [e]; exact bnd (A131 hi)
theorem A131pmp {z : Nat} {M : PM} {a b c d : Nat} (hi : a + b * c + d < 600) {β : Type} {f : _ → Option β} : (zald 0 (enc z M) (z + 131) (nI a + nI b * nI c + nI d)).bind f = f (M.1 131 (a + b * c + d)) := by
  have e : nI a + nI b * nI c + nI d = nI (a + b * c + d) := by simp only [nI_add, pk_mul]
  rw [e]; exact bnd (A131 hi)
theorem A131mpp {z : Nat} {M : PM} {a b c d : Nat} (hi : a * b + c + d < 600) {β : Type} {f : _ → Option β} : (zald 0 (enc z M) (z + 131) (nI a * nI b + nI c + nI d)).bind f = f (M.1 131 (a * b + c + d)) := by
  have e : nI a * nI b + nI c + nI d = nI (a * b + c + d) := by simp only [nI_add, pk_mul]
  rw [e]; exact bnd (A131 hi)
theorem A131pp {z : Nat} {M : PM} {a b c : Nat} (hi : a + b + c < 600) {β : Type} {f : _ → Option β} : (zald 0 (enc z M) (z + 131) (nI a + nI b + nI c)).bind f = f (M.1 131 (a + b + c)) := by
  have e : nI a + nI b + nI c = nI (a + b + c) := by simp only [nI_add, pk_mul]
  rw [e]; exact bnd (A131 hi)
theorem S131b {z : Nat} {M : PM} {i : Nat} {v : Int32} (hi : i < 600) {β : Type} {f : _ → Option β} : (zast 0 (enc z M) (z + 131) (nI i) v).bind f = f (enc z (setI M 131 i v)) := bnd (S131 hi)
theorem S131m {z : Nat} {M : PM} {a b : Nat} {v : Int32} (hi : a * b < 600) {β : Type} {f : _ → Option β} : (zast 0 (enc z M) (z + 131) (nI a * nI b) v).bind f = f (enc z (setI M 131 (a * b) v)) := by
  have e : nI a * nI b = nI (a * b) := by simp only [nI_add, pk_mul]
  rw [e]; exact bnd (S131 hi)
theorem S131p {z : Nat} {M : PM} {a b : Nat} {v : Int32} (hi : a + b < 600) {β : Type} {f : _ → Option β} : (zast 0 (enc z M) (z + 131) (nI a + nI b) v).bind f = f (enc z (setI M 131 (a + b) v)) := by
  have e : nI a + nI b = nI (a + b) := by simp only [nI_add, pk_mul]
  rw [e]; exact bnd (S131 hi)
theorem S131mp {z : Nat} {M : PM} {a b c : Nat} {v : Int32} (hi : a * b + c < 600) {β : Type} {f : _ → Option β} : (zast 0 (enc z M) (z + 131) (nI a * nI b + nI c) v).bind f = f (enc z (setI M 131 (a * b + c) v)) := by
  have e : nI a * nI b + nI c = nI (a * b + c) := by simp only [nI_add, pk_mul]
  rw [e]; exact bnd (S131 hi)
theorem S131pm {z : Nat} {M : PM} {a b c : Nat} {v : Int32} (hi : a + b * c < 600) {β : Type} {f : _ → Option β} : (zast 0 (enc z M) (z + 131) (nI a + nI b * nI c) v).bind f = f (enc z (setI M 131 (a + b * c) v)) := by
  have e : nI a + nI b * nI c = nI (a + b * c) := by simp only [nI_add, pk_mul]
  rw [e]; exact bnd (S131 hi)
theorem S131pmp {z : Nat} {M : PM} {a b c d : Nat} {v : Int32} (hi : a + b * c + d < 600) {β : Type} {f : _ → Option β} : (zast 0 (enc z M) (z + 131) (nI a + nI b * nI c + nI d) v).bind f = f (enc z (setI M 131 (a + b * c + d) v)) := by
  have e : nI a + nI b * nI c + nI d = nI (a + b * c + d) := by simp only [nI_add, pk_mul]
  rw [e]; exact bnd (S131 hi)
theorem S131mpp {z : Nat} {M : PM} {a b c d : Nat} {v : Int32} (hi : a * b + c + d < 600) {β : Type} {f : _ → Option β} : (zast 0 (enc z M) (z + 131) (nI a * nI b + nI c + nI d) v).bind f = f (enc z (setI M 131 (a * b + c + d) v)) := by
  have e : nI a * nI b + nI c + nI d = nI (a * b + c + d) := by simp only [nI_add, pk_mul]
  rw [e]; exact bnd (S131 hi)
theorem S131pp {z : Nat} {M : PM} {a b c : Nat} {v : Int32} (hi : a + b + c < 600) {β : Type} {f : _ → Option β} : (zast 0 (enc z M) (z + 131) (nI a + nI b + nI c) v).bind f = f (enc z (setI M 131 (a + b + c) v)) := by
  have e : nI a + nI b + nI c = nI (a + b + c) := by simp only [nI_add, pk_mul]
  rw [e]; exact bnd (S131 hi)
theorem N131b {z : Nat} {M : PM} {β : Type} {f : _ → Option β} : (zlen (enc z M) (z + 131)).bind f = f (nI 600) := bnd (N131)
theorem A132b {z : Nat} {M : PM} {i : Nat} (hi : i < 6) {β : Type} {f : _ → Option β} : (zald 0 (enc z M) (z + 132) (nI i)).bind f = f (M.1 132 i) := bnd (A132 hi)
theorem S132b {z : Nat} {M : PM} {i : Nat} {v : Int32} (hi : i < 6) {β : Type} {f : _ → Option β} : (zast 0 (enc z M) (z + 132) (nI i) v).bind f = f (enc z (setI M 132 i v)) := bnd (S132 hi)
theorem N132b {z : Nat} {M : PM} {β : Type} {f : _ → Option β} : (zlen (enc z M) (z + 132)).bind f = f (nI 6) := bnd (N132)
theorem A133b {z : Nat} {M : PM} {i : Nat} (hi : i < 100) {β : Type} {f : _ → Option β} : (zald 0 (enc z M) (z + 133) (nI i)).bind f = f (M.1 133 i) := bnd (A133 hi)
theorem S133b {z : Nat} {M : PM} {i : Nat} {v : Int32} (hi : i < 100) {β : Type} {f : _ → Option β} : (zast 0 (enc z M) (z + 133) (nI i) v).bind f = f (enc z (setI M 133 i v)) := bnd (S133 hi)
theorem N133b {z : Nat} {M : PM} {β : Type} {f : _ → Option β} : (zlen (enc z M) (z + 133)).bind f = f (nI 100) := bnd (N133)
theorem A134b {z : Nat} {M : PM} {i : Nat} (hi : i < 6) {β : Type} {f : _ → Option β} : (zald 0 (enc z M) (z + 134) (nI i)).bind f = f (M.1 134 i) := bnd (A134 hi)
theorem S134b {z : Nat} {M : PM} {i : Nat} {v : Int32} (hi : i < 6) {β : Type} {f : _ → Option β} : (zast 0 (enc z M) (z + 134) (nI i) v).bind f = f (enc z (setI M 134 i v)) := bnd (S134 hi)
theorem N134b {z : Nat} {M : PM} {β : Type} {f : _ → Option β} : (zlen (enc z M) (z + 134)).bind f = f (nI 6) := bnd (N134)
theorem A135b {z : Nat} {M : PM} {i : Nat} (hi : i < 6) {β : Type} {f : _ → Option β} : (zald 2 (enc z M) (z + 135) (nI i)).bind f = f (M.1 135 i) := bnd (A135 hi)
theorem S135b {z : Nat} {M : PM} {i : Nat} {v : Int32} (hi : i < 6) {β : Type} {f : _ → Option β} : (zast 2 (enc z M) (z + 135) (nI i) v).bind f = f (enc z (setI M 135 i v)) := bnd (S135 hi)
theorem N135b {z : Nat} {M : PM} {β : Type} {f : _ → Option β} : (zlen (enc z M) (z + 135)).bind f = f (nI 6) := bnd (N135)
theorem A136b {z : Nat} {M : PM} {i : Nat} (hi : i < 3) {β : Type} {f : _ → Option β} : (zald 2 (enc z M) (z + 136) (nI i)).bind f = f (M.1 136 i) := bnd (A136 hi)
theorem S136b {z : Nat} {M : PM} {i : Nat} {v : Int32} (hi : i < 3) {β : Type} {f : _ → Option β} : (zast 2 (enc z M) (z + 136) (nI i) v).bind f = f (enc z (setI M 136 i v)) := bnd (S136 hi)
theorem N136b {z : Nat} {M : PM} {β : Type} {f : _ → Option β} : (zlen (enc z M) (z + 136)).bind f = f (nI 3) := bnd (N136)
theorem A137b {z : Nat} {M : PM} {i : Nat} (hi : i < 15) {β : Type} {f : _ → Option β} : (zald 2 (enc z M) (z + 137) (nI i)).bind f = f (M.1 137 i) := bnd (A137 hi)
theorem A137m {z : Nat} {M : PM} {a b : Nat} (hi : a * b < 15) {β : Type} {f : _ → Option β} : (zald 2 (enc z M) (z + 137) (nI a * nI b)).bind f = f (M.1 137 (a * b)) := by
  have e : nI a * nI b = nI (a * b) := by simp only [nI_add, pk_mul]
  rw [e]; exact bnd (A137 hi)
theorem A137p {z : Nat} {M : PM} {a b : Nat} (hi : a + b < 15) {β : Type} {f : _ → Option β} : (zald 2 (enc z M) (z + 137) (nI a + nI b)).bind f = f (M.1 137 (a + b)) := by
  have e : nI a + nI b = nI (a + b) := by simp only [nI_add, pk_mul]
  rw [e]; exact bnd (A137 hi)
theorem A137mp {z : Nat} {M : PM} {a b c : Nat} (hi : a * b + c < 15) {β : Type} {f : _ → Option β} : (zald 2 (enc z M) (z + 137) (nI a * nI b + nI c)).bind f = f (M.1 137 (a * b + c)) := by
  have e : nI a * nI b + nI c = nI (a * b + c) := by simp only [nI_add, pk_mul]
  rw [e]; exact bnd (A137 hi)
theorem A137pm {z : Nat} {M : PM} {a b c : Nat} (hi : a + b * c < 15) {β : Type} {f : _ → Option β} : (zald 2 (enc z M) (z + 137) (nI a + nI b * nI c)).bind f = f (M.1 137 (a + b * c)) := by
  have e : nI a + nI b * nI c = nI (a + b * c) := by simp only [nI_add, pk_mul]
  rw [e]; exact bnd (A137 hi)
theorem A137pmp {z : Nat} {M : PM} {a b c d : Nat} (hi : a + b * c + d < 15) {β : Type} {f : _ → Option β} : (zald 2 (enc z M) (z + 137) (nI a + nI b * nI c + nI d)).bind f = f (M.1 137 (a + b * c + d)) := by
  have e : nI a + nI b * nI c + nI d = nI (a + b * c + d) := by simp only [nI_add, pk_mul]
  rw [e]; exact bnd (A137 hi)
theorem A137mpp {z : Nat} {M : PM} {a b c d : Nat} (hi : a * b + c + d < 15) {β : Type} {f : _ → Option β} : (zald 2 (enc z M) (z + 137) (nI a * nI b + nI c + nI d)).bind f = f (M.1 137 (a * b + c + d)) := by
  have e : nI a * nI b + nI c + nI d = nI (a * b + c + d) := by simp only [nI_add, pk_mul]
  rw [e]; exact bnd (A137 hi)
theorem A137pp {z : Nat} {M : PM} {a b c : Nat} (hi : a + b + c < 15) {β : Type} {f : _ → Option β} : (zald 2 (enc z M) (z + 137) (nI a + nI b + nI c)).bind f = f (M.1 137 (a + b + c)) := by
  have e : nI a + nI b + nI c = nI (a + b + c) := by simp only [nI_add, pk_mul]
  rw [e]; exact bnd (A137 hi)
theorem S137b {z : Nat} {M : PM} {i : Nat} {v : Int32} (hi : i < 15) {β : Type} {f : _ → Option β} : (zast 2 (enc z M) (z + 137) (nI i) v).bind f = f (enc z (setI M 137 i v)) := bnd (S137 hi)
theorem S137m {z : Nat} {M : PM} {a b : Nat} {v : Int32} (hi : a * b < 15) {β : Type} {f : _ → Option β} : (zast 2 (enc z M) (z + 137) (nI a * nI b) v).bind f = f (enc z (setI M 137 (a * b) v)) := by
  have e : nI a * nI b = nI (a * b) := by simp only [nI_add, pk_mul]
  rw [e]; exact bnd (S137 hi)
theorem S137p {z : Nat} {M : PM} {a b : Nat} {v : Int32} (hi : a + b < 15) {β : Type} {f : _ → Option β} : (zast 2 (enc z M) (z + 137) (nI a + nI b) v).bind f = f (enc z (setI M 137 (a + b) v)) := by
  have e : nI a + nI b = nI (a + b) := by simp only [nI_add, pk_mul]
  rw [e]; exact bnd (S137 hi)
theorem S137mp {z : Nat} {M : PM} {a b c : Nat} {v : Int32} (hi : a * b + c < 15) {β : Type} {f : _ → Option β} : (zast 2 (enc z M) (z + 137) (nI a * nI b + nI c) v).bind f = f (enc z (setI M 137 (a * b + c) v)) := by
  have e : nI a * nI b + nI c = nI (a * b + c) := by simp only [nI_add, pk_mul]
  rw [e]; exact bnd (S137 hi)
theorem S137pm {z : Nat} {M : PM} {a b c : Nat} {v : Int32} (hi : a + b * c < 15) {β : Type} {f : _ → Option β} : (zast 2 (enc z M) (z + 137) (nI a + nI b * nI c) v).bind f = f (enc z (setI M 137 (a + b * c) v)) := by
  have e : nI a + nI b * nI c = nI (a + b * c) := by simp only [nI_add, pk_mul]
  rw [e]; exact bnd (S137 hi)
theorem S137pmp {z : Nat} {M : PM} {a b c d : Nat} {v : Int32} (hi : a + b * c + d < 15) {β : Type} {f : _ → Option β} : (zast 2 (enc z M) (z + 137) (nI a + nI b * nI c + nI d) v).bind f = f (enc z (setI M 137 (a + b * c + d) v)) := by
  have e : nI a + nI b * nI c + nI d = nI (a + b * c + d) := by simp only [nI_add, pk_mul]
  rw [e]; exact bnd (S137 hi)
theorem S137mpp {z : Nat} {M : PM} {a b c d : Nat} {v : Int32} (hi : a * b + c + d < 15) {β : Type} {f : _ → Option β} : (zast 2 (enc z M) (z + 137) (nI a * nI b + nI c + nI d) v).bind f = f (enc z (setI M 137 (a * b + c + d) v)) := by
  have e : nI a * nI b + nI c + nI d = nI (a * b + c + d) := by simp only [nI_add, pk_mul]
  rw [e]; exact bnd (S137 hi)
theorem S137pp {z : Nat} {M : PM} {a b c : Nat} {v : Int32} (hi : a + b + c < 15) {β : Type} {f : _ → Option β} : (zast 2 (enc z M) (z + 137) (nI a + nI b + nI c) v).bind f = f (enc z (setI M 137 (a + b + c) v)) := by
  have e : nI a + nI b + nI c = nI (a + b + c) := by simp only [nI_add, pk_mul]
  rw [e]; exact bnd (S137 hi)
theorem N137b {z : Nat} {M : PM} {β : Type} {f : _ → Option β} : (zlen (enc z M) (z + 137)).bind f = f (nI 15) := bnd (N137)
theorem A138b {z : Nat} {M : PM} {i : Nat} (hi : i < 7) {β : Type} {f : _ → Option β} : (zald 0 (enc z M) (z + 138) (nI i)).bind f = f (M.1 138 i) := bnd (A138 hi)
theorem S138b {z : Nat} {M : PM} {i : Nat} {v : Int32} (hi : i < 7) {β : Type} {f : _ → Option β} : (zast 0 (enc z M) (z + 138) (nI i) v).bind f = f (enc z (setI M 138 i v)) := bnd (S138 hi)
theorem N138b {z : Nat} {M : PM} {β : Type} {f : _ → Option β} : (zlen (enc z M) (z + 138)).bind f = f (nI 7) := bnd (N138)
theorem A139b {z : Nat} {M : PM} {i : Nat} (hi : i < 21) {β : Type} {f : _ → Option β} : (zald 0 (enc z M) (z + 139) (nI i)).bind f = f (M.1 139 i) := bnd (A139 hi)
theorem A139m {z : Nat} {M : PM} {a b : Nat} (hi : a * b < 21) {β : Type} {f : _ → Option β} : (zald 0 (enc z M) (z + 139) (nI a * nI b)).bind f = f (M.1 139 (a * b)) := by
  have e : nI a * nI b = nI (a * b) := by simp only [nI_add, pk_mul]
  rw [e]; exact bnd (A139 hi)
theorem A139p {z : Nat} {M : PM} {a b : Nat} (hi : a + b < 21) {β : Type} {f : _ → Option β} : (zald 0 (enc z M) (z + 139) (nI a + nI b)).bind f = f (M.1 139 (a + b)) := by
  have e : nI a + nI b = nI (a + b) := by simp only [nI_add, pk_mul]
  rw [e]; exact bnd (A139 hi)
theorem A139mp {z : Nat} {M : PM} {a b c : Nat} (hi : a * b + c < 21) {β : Type} {f : _ → Option β} : (zald 0 (enc z M) (z + 139) (nI a * nI b + nI c)).bind f = f (M.1 139 (a * b + c)) := by
  have e : nI a * nI b + nI c = nI (a * b + c) := by simp only [nI_add, pk_mul]
  rw [e]; exact bnd (A139 hi)
theorem A139pm {z : Nat} {M : PM} {a b c : Nat} (hi : a + b * c < 21) {β : Type} {f : _ → Option β} : (zald 0 (enc z M) (z + 139) (nI a + nI b * nI c)).bind f = f (M.1 139 (a + b * c)) := by
  have e : nI a + nI b * nI c = nI (a + b * c) := by simp only [nI_add, pk_mul]
  rw [e]; exact bnd (A139 hi)
theorem A139pmp {z : Nat} {M : PM} {a b c d : Nat} (hi : a + b * c + d < 21) {β : Type} {f : _ → Option β} : (zald 0 (enc z M) (z + 139) (nI a + nI b * nI c + nI d)).bind f = f (M.1 139 (a + b * c + d)) := by
  have e : nI a + nI b * nI c + nI d = nI (a + b * c + d) := by simp only [nI_add, pk_mul]
  rw [e]; exact bnd (A139 hi)
theorem A139mpp {z : Nat} {M : PM} {a b c d : Nat} (hi : a * b + c + d < 21) {β : Type} {f : _ → Option β} : (zald 0 (enc z M) (z + 139) (nI a * nI b + nI c + nI d)).bind f = f (M.1 139 (a * b + c + d)) := by
  have e : nI a * nI b + nI c + nI d = nI (a * b + c + d) := by simp only [nI_add, pk_mul]
  rw [e]; exact bnd (A139 hi)
theorem A139pp {z : Nat} {M : PM} {a b c : Nat} (hi : a + b + c < 21) {β : Type} {f : _ → Option β} : (zald 0 (enc z M) (z + 139) (nI a + nI b + nI c)).bind f = f (M.1 139 (a + b + c)) := by
  have e : nI a + nI b + nI c = nI (a + b + c) := by simp only [nI_add, pk_mul]
  rw [e]; exact bnd (A139 hi)
theorem S139b {z : Nat} {M : PM} {i : Nat} {v : Int32} (hi : i < 21) {β : Type} {f : _ → Option β} : (zast 0 (enc z M) (z + 139) (nI i) v).bind f = f (enc z (setI M 139 i v)) := bnd (S139 hi)
theorem S139m {z : Nat} {M : PM} {a b : Nat} {v : Int32} (hi : a * b < 21) {β : Type} {f : _ → Option β} : (zast 0 (enc z M) (z + 139) (nI a * nI b) v).bind f = f (enc z (setI M 139 (a * b) v)) := by
  have e : nI a * nI b = nI (a * b) := by simp only [nI_add, pk_mul]
  rw [e]; exact bnd (S139 hi)
theorem S139p {z : Nat} {M : PM} {a b : Nat} {v : Int32} (hi : a + b < 21) {β : Type} {f : _ → Option β} : (zast 0 (enc z M) (z + 139) (nI a + nI b) v).bind f = f (enc z (setI M 139 (a + b) v)) := by
  have e : nI a + nI b = nI (a + b) := by simp only [nI_add, pk_mul]
  rw [e]; exact bnd (S139 hi)
theorem S139mp {z : Nat} {M : PM} {a b c : Nat} {v : Int32} (hi : a * b + c < 21) {β : Type} {f : _ → Option β} : (zast 0 (enc z M) (z + 139) (nI a * nI b + nI c) v).bind f = f (enc z (setI M 139 (a * b + c) v)) := by
  have e : nI a * nI b + nI c = nI (a * b + c) := by simp only [nI_add, pk_mul]
  rw [e]; exact bnd (S139 hi)
theorem S139pm {z : Nat} {M : PM} {a b c : Nat} {v : Int32} (hi : a + b * c < 21) {β : Type} {f : _ → Option β} : (zast 0 (enc z M) (z + 139) (nI a + nI b * nI c) v).bind f = f (enc z (setI M 139 (a + b * c) v)) := by
  have e : nI a + nI b * nI c = nI (a + b * c) := by simp only [nI_add, pk_mul]
  rw [e]; exact bnd (S139 hi)
theorem S139pmp {z : Nat} {M : PM} {a b c d : Nat} {v : Int32} (hi : a + b * c + d < 21) {β : Type} {f : _ → Option β} : (zast 0 (enc z M) (z + 139) (nI a + nI b * nI c + nI d) v).bind f = f (enc z (setI M 139 (a + b * c + d) v)) := by
  have e : nI a + nI b * nI c + nI d = nI (a + b * c + d) := by simp only [nI_add, pk_mul]
  rw [e]; exact bnd (S139 hi)
theorem S139mpp {z : Nat} {M : PM} {a b c d : Nat} {v : Int32} (hi : a * b + c + d < 21) {β : Type} {f : _ → Option β} : (zast 0 (enc z M) (z + 139) (nI a * nI b + nI c + nI d) v).bind f = f (enc z (setI M 139 (a * b + c + d) v)) := by
  have e : nI a * nI b + nI c + nI d = nI (a * b + c + d) := by simp only [nI_add, pk_mul]
  rw [e]; exact bnd (S139 hi)
theorem S139pp {z : Nat} {M : PM} {a b c : Nat} {v : Int32} (hi : a + b + c < 21) {β : Type} {f : _ → Option β} : (zast 0 (enc z M) (z + 139) (nI a + nI b + nI c) v).bind f = f (enc z (setI M 139 (a + b + c) v)) := by
  have e : nI a + nI b + nI c = nI (a + b + c) := by simp only [nI_add, pk_mul]
  rw [e]; exact bnd (S139 hi)
theorem N139b {z : Nat} {M : PM} {β : Type} {f : _ → Option β} : (zlen (enc z M) (z + 139)).bind f = f (nI 21) := bnd (N139)
theorem A140b {z : Nat} {M : PM} {i : Nat} (hi : i < 20) {β : Type} {f : _ → Option β} : (zald 0 (enc z M) (z + 140) (nI i)).bind f = f (M.1 140 i) := bnd (A140 hi)
theorem S140b {z : Nat} {M : PM} {i : Nat} {v : Int32} (hi : i < 20) {β : Type} {f : _ → Option β} : (zast 0 (enc z M) (z + 140) (nI i) v).bind f = f (enc z (setI M 140 i v)) := bnd (S140 hi)
theorem N140b {z : Nat} {M : PM} {β : Type} {f : _ → Option β} : (zlen (enc z M) (z + 140)).bind f = f (nI 20) := bnd (N140)
theorem A141b {z : Nat} {M : PM} {i : Nat} (hi : i < 6) {β : Type} {f : _ → Option β} : (zald 0 (enc z M) (z + 141) (nI i)).bind f = f (M.1 141 i) := bnd (A141 hi)
theorem S141b {z : Nat} {M : PM} {i : Nat} {v : Int32} (hi : i < 6) {β : Type} {f : _ → Option β} : (zast 0 (enc z M) (z + 141) (nI i) v).bind f = f (enc z (setI M 141 i v)) := bnd (S141 hi)
theorem N141b {z : Nat} {M : PM} {β : Type} {f : _ → Option β} : (zlen (enc z M) (z + 141)).bind f = f (nI 6) := bnd (N141)
theorem A142b {z : Nat} {M : PM} {i : Nat} (hi : i < 6) {β : Type} {f : _ → Option β} : (zald 0 (enc z M) (z + 142) (nI i)).bind f = f (M.1 142 i) := bnd (A142 hi)
theorem S142b {z : Nat} {M : PM} {i : Nat} {v : Int32} (hi : i < 6) {β : Type} {f : _ → Option β} : (zast 0 (enc z M) (z + 142) (nI i) v).bind f = f (enc z (setI M 142 i v)) := bnd (S142 hi)
theorem N142b {z : Nat} {M : PM} {β : Type} {f : _ → Option β} : (zlen (enc z M) (z + 142)).bind f = f (nI 6) := bnd (N142)
theorem A143b {z : Nat} {M : PM} {i : Nat} (hi : i < 360) {β : Type} {f : _ → Option β} : (zlald (enc z M) (z + 143) (nI i)).bind f = f (M.2.1 143 i) := bnd (A143 hi)
theorem A143m {z : Nat} {M : PM} {a b : Nat} (hi : a * b < 360) {β : Type} {f : _ → Option β} : (zlald (enc z M) (z + 143) (nI a * nI b)).bind f = f (M.2.1 143 (a * b)) := by
  have e : nI a * nI b = nI (a * b) := by simp only [nI_add, pk_mul]
  rw [e]; exact bnd (A143 hi)
theorem A143p {z : Nat} {M : PM} {a b : Nat} (hi : a + b < 360) {β : Type} {f : _ → Option β} : (zlald (enc z M) (z + 143) (nI a + nI b)).bind f = f (M.2.1 143 (a + b)) := by
  have e : nI a + nI b = nI (a + b) := by simp only [nI_add, pk_mul]
  rw [e]; exact bnd (A143 hi)
theorem A143mp {z : Nat} {M : PM} {a b c : Nat} (hi : a * b + c < 360) {β : Type} {f : _ → Option β} : (zlald (enc z M) (z + 143) (nI a * nI b + nI c)).bind f = f (M.2.1 143 (a * b + c)) := by
  have e : nI a * nI b + nI c = nI (a * b + c) := by simp only [nI_add, pk_mul]
  rw [e]; exact bnd (A143 hi)
theorem A143pm {z : Nat} {M : PM} {a b c : Nat} (hi : a + b * c < 360) {β : Type} {f : _ → Option β} : (zlald (enc z M) (z + 143) (nI a + nI b * nI c)).bind f = f (M.2.1 143 (a + b * c)) := by
  have e : nI a + nI b * nI c = nI (a + b * c) := by simp only [nI_add, pk_mul]
  rw [e]; exact bnd (A143 hi)
theorem A143pmp {z : Nat} {M : PM} {a b c d : Nat} (hi : a + b * c + d < 360) {β : Type} {f : _ → Option β} : (zlald (enc z M) (z + 143) (nI a + nI b * nI c + nI d)).bind f = f (M.2.1 143 (a + b * c + d)) := by
  have e : nI a + nI b * nI c + nI d = nI (a + b * c + d) := by simp only [nI_add, pk_mul]
  rw [e]; exact bnd (A143 hi)
theorem A143mpp {z : Nat} {M : PM} {a b c d : Nat} (hi : a * b + c + d < 360) {β : Type} {f : _ → Option β} : (zlald (enc z M) (z + 143) (nI a * nI b + nI c + nI d)).bind f = f (M.2.1 143 (a * b + c + d)) := by
  have e : nI a * nI b + nI c + nI d = nI (a * b + c + d) := by simp only [nI_add, pk_mul]
  rw [e]; exact bnd (A143 hi)
theorem A143pp {z : Nat} {M : PM} {a b c : Nat} (hi : a + b + c < 360) {β : Type} {f : _ → Option β} : (zlald (enc z M) (z + 143) (nI a + nI b + nI c)).bind f = f (M.2.1 143 (a + b + c)) := by
  have e : nI a + nI b + nI c = nI (a + b + c) := by simp only [nI_add, pk_mul]
  rw [e]; exact bnd (A143 hi)
theorem S143b {z : Nat} {M : PM} {i : Nat} {v : Int64} (hi : i < 360) {β : Type} {f : _ → Option β} : (zlast (enc z M) (z + 143) (nI i) v).bind f = f (enc z (setJ M 143 i v)) := bnd (S143 hi)
theorem S143m {z : Nat} {M : PM} {a b : Nat} {v : Int64} (hi : a * b < 360) {β : Type} {f : _ → Option β} : (zlast (enc z M) (z + 143) (nI a * nI b) v).bind f = f (enc z (setJ M 143 (a * b) v)) := by
  have e : nI a * nI b = nI (a * b) := by simp only [nI_add, pk_mul]
  rw [e]; exact bnd (S143 hi)
theorem S143p {z : Nat} {M : PM} {a b : Nat} {v : Int64} (hi : a + b < 360) {β : Type} {f : _ → Option β} : (zlast (enc z M) (z + 143) (nI a + nI b) v).bind f = f (enc z (setJ M 143 (a + b) v)) := by
  have e : nI a + nI b = nI (a + b) := by simp only [nI_add, pk_mul]
  rw [e]; exact bnd (S143 hi)
theorem S143mp {z : Nat} {M : PM} {a b c : Nat} {v : Int64} (hi : a * b + c < 360) {β : Type} {f : _ → Option β} : (zlast (enc z M) (z + 143) (nI a * nI b + nI c) v).bind f = f (enc z (setJ M 143 (a * b + c) v)) := by
  have e : nI a * nI b + nI c = nI (a * b + c) := by simp only [nI_add, pk_mul]
  rw [e]; exact bnd (S143 hi)
theorem S143pm {z : Nat} {M : PM} {a b c : Nat} {v : Int64} (hi : a + b * c < 360) {β : Type} {f : _ → Option β} : (zlast (enc z M) (z + 143) (nI a + nI b * nI c) v).bind f = f (enc z (setJ M 143 (a + b * c) v)) := by
  have e : nI a + nI b * nI c = nI (a + b * c) := by simp only [nI_add, pk_mul]
  rw [e]; exact bnd (S143 hi)
theorem S143pmp {z : Nat} {M : PM} {a b c d : Nat} {v : Int64} (hi : a + b * c + d < 360) {β : Type} {f : _ → Option β} : (zlast (enc z M) (z + 143) (nI a + nI b * nI c + nI d) v).bind f = f (enc z (setJ M 143 (a + b * c + d) v)) := by
  have e : nI a + nI b * nI c + nI d = nI (a + b * c + d) := by simp only [nI_add, pk_mul]
  rw [e]; exact bnd (S143 hi)
theorem S143mpp {z : Nat} {M : PM} {a b c d : Nat} {v : Int64} (hi : a * b + c + d < 360) {β : Type} {f : _ → Option β} : (zlast (enc z M) (z + 143) (nI a * nI b + nI c + nI d) v).bind f = f (enc z (setJ M 143 (a * b + c + d) v)) := by
  have e : nI a * nI b + nI c + nI d = nI (a * b + c + d) := by simp only [nI_add, pk_mul]
  rw [e]; exact bnd (S143 hi)
theorem S143pp {z : Nat} {M : PM} {a b c : Nat} {v : Int64} (hi : a + b + c < 360) {β : Type} {f : _ → Option β} : (zlast (enc z M) (z + 143) (nI a + nI b + nI c) v).bind f = f (enc z (setJ M 143 (a + b + c) v)) := by
  have e : nI a + nI b + nI c = nI (a + b + c) := by simp only [nI_add, pk_mul]
  rw [e]; exact bnd (S143 hi)
theorem A144b {z : Nat} {M : PM} {i : Nat} (hi : i < 60) {β : Type} {f : _ → Option β} : (zlald (enc z M) (z + 144) (nI i)).bind f = f (M.2.1 144 i) := bnd (A144 hi)
theorem S144b {z : Nat} {M : PM} {i : Nat} {v : Int64} (hi : i < 60) {β : Type} {f : _ → Option β} : (zlast (enc z M) (z + 144) (nI i) v).bind f = f (enc z (setJ M 144 i v)) := bnd (S144 hi)
theorem R10b {z : Nat} {M : PM} {i : Nat} (hi : i < 5) {β : Type} {f : _ → Option β} : (zaald 7 (enc z M) (z + 10) (nI i)).bind f = f (z + (11 + i)) := bnd (R10 hi)
theorem R16b {z : Nat} {M : PM} {i : Nat} (hi : i < 10) {β : Type} {f : _ → Option β} : (zaald 7 (enc z M) (z + 16) (nI i)).bind f = f (z + (17 + i)) := bnd (R16 hi)
theorem R27b {z : Nat} {M : PM} {i : Nat} (hi : i < 8) {β : Type} {f : _ → Option β} : (zaald 7 (enc z M) (z + 27) (nI i)).bind f = f (z + (28 + i)) := bnd (R27 hi)
theorem R83b {z : Nat} {M : PM} {i : Nat} (hi : i < 6) {β : Type} {f : _ → Option β} : (zaald 4 (enc z M) (z + 83) (nI i)).bind f = f (z + (90 + 4 * i)) := bnd (R83 hi)
theorem R87b {z : Nat} {M : PM} {i : Nat} (hi : i < 6) {β : Type} {f : _ → Option β} : (zaald 6 (enc z M) (z + 87) (nI i)).bind f = f (z + (114 + 2 * i)) := bnd (R87 hi)
theorem R71b {z : Nat} {M : PM} {i : Nat} (hi : i < 7) {β : Type} {f : _ → Option β} : (zaald 5 (enc z M) (z + 71) (nI i)).bind f = f (z + (72 + i)) := bnd (R71 hi)
