def Q135 : Nat → Int32 := (upd (upd (upd (upd (upd (upd (fun _ => 0) 0 (vp_nar .char (112 : Int32))) 1 (vp_nar .char (107 : Int32))) 2 (vp_nar .char (118 : Int32))) 3 (vp_nar .char (102 : Int32))) 4 (vp_nar .char (100 : Int32))) 5 (vp_nar .char (115 : Int32)))
def Q136 : Nat → Int32 := (upd (upd (upd (fun _ => 0) 0 (vp_nar .char (107 : Int32))) 1 (vp_nar .char (108 : Int32))) 2 (vp_nar .char (104 : Int32)))
def Q137 : Nat → Int32 := (upd (upd (upd (upd (upd (upd (upd (upd (upd (upd (upd (upd (upd (upd (upd (fun _ => 0) 0 (vp_nar .char (107 : Int32))) 1 (vp_nar .char (101 : Int32))) 2 (vp_nar .char (101 : Int32))) 3 (vp_nar .char (112 : Int32))) 4 (vp_nar .char (0 : Int32))) 5 (vp_nar .char (108 : Int32))) 6 (vp_nar .char (111 : Int32))) 7 (vp_nar .char (115 : Int32))) 8 (vp_nar .char (101 : Int32))) 9 (vp_nar .char (0 : Int32))) 10 (vp_nar .char (104 : Int32))) 11 (vp_nar .char (111 : Int32))) 12 (vp_nar .char (117 : Int32))) 13 (vp_nar .char (114 : Int32))) 14 (vp_nar .char (115 : Int32)))
def Q138 : Nat → Int32 := (upd (upd (upd (upd (upd (upd (upd (fun _ => 0) 0 (-1 : Int32)) 1 (0 : Int32)) 2 (0 : Int32)) 3 (0 : Int32)) 4 (1 : Int32)) 5 (2 : Int32)) 6 (3 : Int32))
def Q139 : Nat → Int32 := (upd (upd (upd (upd (upd (upd (upd (upd (upd (upd (upd (upd (upd (upd (upd (upd (upd (upd (upd (upd (upd (fun _ => 0) 0 (10 : Int32)) 1 (11 : Int32)) 2 (12 : Int32)) 3 (0 : Int32)) 4 (20 : Int32)) 5 (0 : Int32)) 6 (30 : Int32)) 7 (0 : Int32)) 8 (0 : Int32)) 9 (0 : Int32)) 10 (0 : Int32)) 11 (40 : Int32)) 12 (50 : Int32)) 13 (51 : Int32)) 14 (0 : Int32)) 15 (0 : Int32)) 16 (0 : Int32)) 17 (60 : Int32)) 18 (71 : Int32)) 19 (70 : Int32)) 20 (0 : Int32))
def Q141 : Nat → Int32 := (upd (upd (upd (upd (upd (upd (fun _ => 0) 0 (-1 : Int32)) 1 (-1 : Int32)) 2 (-1 : Int32)) 3 (-1 : Int32)) 4 (-1 : Int32)) 5 (-1 : Int32))
def m0I (k j : Nat) : Int32 :=
  if k < 72 then (if k = 1 then (if j = 13 then -1 else 0) else if k = 36 then (if j = 13 then -1 else 0) else 0)
  else if k < 90 then (if k = 79 then (if j = 0 then 6 else 0) else 0)
  else if k < 114 then (if k % 4 = 2 then (if j = 0 then 6 else 0) else 0)
  else if k < 126 then (if k % 2 = 0 then (if j = 0 then -1 else 0) else 0)
  else if k = 135 then Q135 j else if k = 136 then Q136 j else if k = 137 then Q137 j else if k = 138 then Q138 j else if k = 139 then Q139 j else if k = 141 then Q141 j else 0
def M00 : PM := (m0I, fun _ _ => 0, fun k => k + 3)
def cl0 (z k : Nat) : Option va_E := (shp M00.2.2 k).map (mk z M00 k)
theorem ec0 (z : Nat) : some (.inr (11, [.ref (z + 1), .ref (z + 36), .int 0, .ref (z + 71), .ref (z + 79), .ref (z + 83), .int 0, .ref (z + 84), .int 0, .ref (z + 85), .ref (z + 87), .ref (z + 88), .ref (z + 89)]) : va_E) = cl0 z 0 := by
  show _ = some ((.inr (11, List.mapIdx (mkF z M00 0) [some 1, some 36, none, some 71, some 79, some 83, none, some 84, none, some 85, some 87, some 88, some 89])) : va_E)
  simp only [List.mapIdx_cons, List.mapIdx_nil]
  rfl
theorem ec1 (z : Nat) : some (.inr (6, [.int 0, .ref (z + 2), .ref (z + 3), .ref (z + 4), .ref (z + 5), .int 0, .ref (z + 6), .ref (z + 7), .ref (z + 8), .int 0, .ref (z + 9), .int 0, .int 0, .int (-1), .int 0, .ref (z + 10), .int 0, .ref (z + 16), .int 0, .ref (z + 27)]) : va_E) = cl0 z 1 := by
  show _ = some ((.inr (6, List.mapIdx (mkF z M00 1) [none, some 2, some 3, some 4, some 5, none, some 6, some 7, some 8, none, some 9, none, none, none, none, some 10, none, some 16, none, some 27])) : va_E)
  simp only [List.mapIdx_cons, List.mapIdx_nil]
  rfl
theorem ec2 (z : Nat) : some (.inl (0, 6, .inl (fun _ => 0)) : va_E) = cl0 z 2 := rfl
theorem ec3 (z : Nat) : some (.inl (0, 6, .inl (fun _ => 0)) : va_E) = cl0 z 3 := rfl
theorem ec4 (z : Nat) : some (.inl (0, 6, .inl (fun _ => 0)) : va_E) = cl0 z 4 := rfl
theorem ec5 (z : Nat) : some (.inl (0, 24, .inl (fun _ => 0)) : va_E) = cl0 z 5 := rfl
theorem ec6 (z : Nat) : some (.inl (0, 8, .inl (fun _ => 0)) : va_E) = cl0 z 6 := rfl
theorem ec7 (z : Nat) : some (.inl (0, 8, .inl (fun _ => 0)) : va_E) = cl0 z 7 := rfl
theorem ec8 (z : Nat) : some (.inl (0, 8, .inl (fun _ => 0)) : va_E) = cl0 z 8 := rfl
theorem ec9 (z : Nat) : some (.inl (0, 5, .inl (fun _ => 0)) : va_E) = cl0 z 9 := rfl
theorem fn10 (z : Nat) : (((fun i => if i < 5 then some (z + 10 + 1 + i) else none) : Nat → Option Nat)) = fun i => (([11, 12, 13, 14, 15] : List Nat)[i]?).map (fun r => z + r) := by
  funext i
  rcases (show i = 0 ∨ i = 1 ∨ i = 2 ∨ i = 3 ∨ i = 4 ∨ 5 ≤ i by omega) with rfl | rfl | rfl | rfl | rfl | h
  · rfl
  · rfl
  · rfl
  · rfl
  · rfl
  · rw [List.getElem?_eq_none (by show 5 ≤ i; exact h)]
    rw [if_neg (by omega)]; rfl
theorem ec10 (z : Nat) : some (.inl (7, 5, .inr (.inr (.inr (.inr (fun i => if i < 5 then some (z + 10 + 1 + i) else none))))) : va_E) = cl0 z 10 := by
  rw [fn10]; rfl
theorem ec11 (z : Nat) : some (.inl (0, 4, .inl (fun _ => 0)) : va_E) = cl0 z 11 := rfl
theorem ec12 (z : Nat) : some (.inl (0, 4, .inl (fun _ => 0)) : va_E) = cl0 z 12 := rfl
theorem ec13 (z : Nat) : some (.inl (0, 4, .inl (fun _ => 0)) : va_E) = cl0 z 13 := rfl
theorem ec14 (z : Nat) : some (.inl (0, 4, .inl (fun _ => 0)) : va_E) = cl0 z 14 := rfl
theorem ec15 (z : Nat) : some (.inl (0, 4, .inl (fun _ => 0)) : va_E) = cl0 z 15 := rfl
theorem fn16 (z : Nat) : (((fun i => if i < 10 then some (z + 16 + 1 + i) else none) : Nat → Option Nat)) = fun i => (([17, 18, 19, 20, 21, 22, 23, 24, 25, 26] : List Nat)[i]?).map (fun r => z + r) := by
  funext i
  rcases (show i = 0 ∨ i = 1 ∨ i = 2 ∨ i = 3 ∨ i = 4 ∨ i = 5 ∨ i = 6 ∨ i = 7 ∨ i = 8 ∨ i = 9 ∨ 10 ≤ i by omega) with rfl | rfl | rfl | rfl | rfl | rfl | rfl | rfl | rfl | rfl | h
  · rfl
  · rfl
  · rfl
  · rfl
  · rfl
  · rfl
  · rfl
  · rfl
  · rfl
  · rfl
  · rw [List.getElem?_eq_none (by show 10 ≤ i; exact h)]
    rw [if_neg (by omega)]; rfl
theorem ec16 (z : Nat) : some (.inl (7, 10, .inr (.inr (.inr (.inr (fun i => if i < 10 then some (z + 16 + 1 + i) else none))))) : va_E) = cl0 z 16 := by
  rw [fn16]; rfl
theorem ec17 (z : Nat) : some (.inl (0, 2, .inl (fun _ => 0)) : va_E) = cl0 z 17 := rfl
theorem ec18 (z : Nat) : some (.inl (0, 2, .inl (fun _ => 0)) : va_E) = cl0 z 18 := rfl
theorem ec19 (z : Nat) : some (.inl (0, 2, .inl (fun _ => 0)) : va_E) = cl0 z 19 := rfl
theorem ec20 (z : Nat) : some (.inl (0, 2, .inl (fun _ => 0)) : va_E) = cl0 z 20 := rfl
theorem ec21 (z : Nat) : some (.inl (0, 2, .inl (fun _ => 0)) : va_E) = cl0 z 21 := rfl
theorem ec22 (z : Nat) : some (.inl (0, 2, .inl (fun _ => 0)) : va_E) = cl0 z 22 := rfl
theorem ec23 (z : Nat) : some (.inl (0, 2, .inl (fun _ => 0)) : va_E) = cl0 z 23 := rfl
theorem ec24 (z : Nat) : some (.inl (0, 2, .inl (fun _ => 0)) : va_E) = cl0 z 24 := rfl
theorem ec25 (z : Nat) : some (.inl (0, 2, .inl (fun _ => 0)) : va_E) = cl0 z 25 := rfl
theorem ec26 (z : Nat) : some (.inl (0, 2, .inl (fun _ => 0)) : va_E) = cl0 z 26 := rfl
theorem fn27 (z : Nat) : (((fun i => if i < 8 then some (z + 27 + 1 + i) else none) : Nat → Option Nat)) = fun i => (([28, 29, 30, 31, 32, 33, 34, 35] : List Nat)[i]?).map (fun r => z + r) := by
  funext i
  rcases (show i = 0 ∨ i = 1 ∨ i = 2 ∨ i = 3 ∨ i = 4 ∨ i = 5 ∨ i = 6 ∨ i = 7 ∨ 8 ≤ i by omega) with rfl | rfl | rfl | rfl | rfl | rfl | rfl | rfl | h
  · rfl
  · rfl
  · rfl
  · rfl
  · rfl
  · rfl
  · rfl
  · rfl
  · rw [List.getElem?_eq_none (by show 8 ≤ i; exact h)]
    rw [if_neg (by omega)]; rfl
theorem ec27 (z : Nat) : some (.inl (7, 8, .inr (.inr (.inr (.inr (fun i => if i < 8 then some (z + 27 + 1 + i) else none))))) : va_E) = cl0 z 27 := by
  rw [fn27]; rfl
theorem ec28 (z : Nat) : some (.inl (0, 2, .inl (fun _ => 0)) : va_E) = cl0 z 28 := rfl
theorem ec29 (z : Nat) : some (.inl (0, 2, .inl (fun _ => 0)) : va_E) = cl0 z 29 := rfl
theorem ec30 (z : Nat) : some (.inl (0, 2, .inl (fun _ => 0)) : va_E) = cl0 z 30 := rfl
theorem ec31 (z : Nat) : some (.inl (0, 2, .inl (fun _ => 0)) : va_E) = cl0 z 31 := rfl
theorem ec32 (z : Nat) : some (.inl (0, 2, .inl (fun _ => 0)) : va_E) = cl0 z 32 := rfl
theorem ec33 (z : Nat) : some (.inl (0, 2, .inl (fun _ => 0)) : va_E) = cl0 z 33 := rfl
theorem ec34 (z : Nat) : some (.inl (0, 2, .inl (fun _ => 0)) : va_E) = cl0 z 34 := rfl
theorem ec35 (z : Nat) : some (.inl (0, 2, .inl (fun _ => 0)) : va_E) = cl0 z 35 := rfl
theorem ec36 (z : Nat) : some (.inr (6, [.int 0, .ref (z + 37), .ref (z + 38), .ref (z + 39), .ref (z + 40), .int 0, .ref (z + 41), .ref (z + 42), .ref (z + 43), .int 0, .ref (z + 44), .int 0, .int 0, .int (-1), .int 0, .ref (z + 45), .int 0, .ref (z + 51), .int 0, .ref (z + 62)]) : va_E) = cl0 z 36 := by
  show _ = some ((.inr (6, List.mapIdx (mkF z M00 36) [none, some 37, some 38, some 39, some 40, none, some 41, some 42, some 43, none, some 44, none, none, none, none, some 45, none, some 51, none, some 62])) : va_E)
  simp only [List.mapIdx_cons, List.mapIdx_nil]
  rfl
theorem ec37 (z : Nat) : some (.inl (0, 6, .inl (fun _ => 0)) : va_E) = cl0 z 37 := rfl
theorem ec38 (z : Nat) : some (.inl (0, 6, .inl (fun _ => 0)) : va_E) = cl0 z 38 := rfl
theorem ec39 (z : Nat) : some (.inl (0, 6, .inl (fun _ => 0)) : va_E) = cl0 z 39 := rfl
theorem ec40 (z : Nat) : some (.inl (0, 24, .inl (fun _ => 0)) : va_E) = cl0 z 40 := rfl
theorem ec41 (z : Nat) : some (.inl (0, 8, .inl (fun _ => 0)) : va_E) = cl0 z 41 := rfl
theorem ec42 (z : Nat) : some (.inl (0, 8, .inl (fun _ => 0)) : va_E) = cl0 z 42 := rfl
theorem ec43 (z : Nat) : some (.inl (0, 8, .inl (fun _ => 0)) : va_E) = cl0 z 43 := rfl
theorem ec44 (z : Nat) : some (.inl (0, 5, .inl (fun _ => 0)) : va_E) = cl0 z 44 := rfl
theorem fn45 (z : Nat) : (((fun i => if i < 5 then some (z + 45 + 1 + i) else none) : Nat → Option Nat)) = fun i => (([46, 47, 48, 49, 50] : List Nat)[i]?).map (fun r => z + r) := by
  funext i
  rcases (show i = 0 ∨ i = 1 ∨ i = 2 ∨ i = 3 ∨ i = 4 ∨ 5 ≤ i by omega) with rfl | rfl | rfl | rfl | rfl | h
  · rfl
  · rfl
  · rfl
  · rfl
  · rfl
  · rw [List.getElem?_eq_none (by show 5 ≤ i; exact h)]
    rw [if_neg (by omega)]; rfl
theorem ec45 (z : Nat) : some (.inl (7, 5, .inr (.inr (.inr (.inr (fun i => if i < 5 then some (z + 45 + 1 + i) else none))))) : va_E) = cl0 z 45 := by
  rw [fn45]; rfl
theorem ec46 (z : Nat) : some (.inl (0, 4, .inl (fun _ => 0)) : va_E) = cl0 z 46 := rfl
theorem ec47 (z : Nat) : some (.inl (0, 4, .inl (fun _ => 0)) : va_E) = cl0 z 47 := rfl
theorem ec48 (z : Nat) : some (.inl (0, 4, .inl (fun _ => 0)) : va_E) = cl0 z 48 := rfl
theorem ec49 (z : Nat) : some (.inl (0, 4, .inl (fun _ => 0)) : va_E) = cl0 z 49 := rfl
theorem ec50 (z : Nat) : some (.inl (0, 4, .inl (fun _ => 0)) : va_E) = cl0 z 50 := rfl
theorem fn51 (z : Nat) : (((fun i => if i < 10 then some (z + 51 + 1 + i) else none) : Nat → Option Nat)) = fun i => (([52, 53, 54, 55, 56, 57, 58, 59, 60, 61] : List Nat)[i]?).map (fun r => z + r) := by
  funext i
  rcases (show i = 0 ∨ i = 1 ∨ i = 2 ∨ i = 3 ∨ i = 4 ∨ i = 5 ∨ i = 6 ∨ i = 7 ∨ i = 8 ∨ i = 9 ∨ 10 ≤ i by omega) with rfl | rfl | rfl | rfl | rfl | rfl | rfl | rfl | rfl | rfl | h
  · rfl
  · rfl
  · rfl
  · rfl
  · rfl
  · rfl
  · rfl
  · rfl
  · rfl
  · rfl
  · rw [List.getElem?_eq_none (by show 10 ≤ i; exact h)]
    rw [if_neg (by omega)]; rfl
theorem ec51 (z : Nat) : some (.inl (7, 10, .inr (.inr (.inr (.inr (fun i => if i < 10 then some (z + 51 + 1 + i) else none))))) : va_E) = cl0 z 51 := by
  rw [fn51]; rfl
theorem ec52 (z : Nat) : some (.inl (0, 2, .inl (fun _ => 0)) : va_E) = cl0 z 52 := rfl
theorem ec53 (z : Nat) : some (.inl (0, 2, .inl (fun _ => 0)) : va_E) = cl0 z 53 := rfl
theorem ec54 (z : Nat) : some (.inl (0, 2, .inl (fun _ => 0)) : va_E) = cl0 z 54 := rfl
theorem ec55 (z : Nat) : some (.inl (0, 2, .inl (fun _ => 0)) : va_E) = cl0 z 55 := rfl
theorem ec56 (z : Nat) : some (.inl (0, 2, .inl (fun _ => 0)) : va_E) = cl0 z 56 := rfl
theorem ec57 (z : Nat) : some (.inl (0, 2, .inl (fun _ => 0)) : va_E) = cl0 z 57 := rfl
theorem ec58 (z : Nat) : some (.inl (0, 2, .inl (fun _ => 0)) : va_E) = cl0 z 58 := rfl
theorem ec59 (z : Nat) : some (.inl (0, 2, .inl (fun _ => 0)) : va_E) = cl0 z 59 := rfl
theorem ec60 (z : Nat) : some (.inl (0, 2, .inl (fun _ => 0)) : va_E) = cl0 z 60 := rfl
theorem ec61 (z : Nat) : some (.inl (0, 2, .inl (fun _ => 0)) : va_E) = cl0 z 61 := rfl
theorem fn62 (z : Nat) : (((fun i => if i < 8 then some (z + 62 + 1 + i) else none) : Nat → Option Nat)) = fun i => (([63, 64, 65, 66, 67, 68, 69, 70] : List Nat)[i]?).map (fun r => z + r) := by
  funext i
  rcases (show i = 0 ∨ i = 1 ∨ i = 2 ∨ i = 3 ∨ i = 4 ∨ i = 5 ∨ i = 6 ∨ i = 7 ∨ 8 ≤ i by omega) with rfl | rfl | rfl | rfl | rfl | rfl | rfl | rfl | h
  · rfl
  · rfl
  · rfl
  · rfl
  · rfl
  · rfl
  · rfl
  · rfl
  · rw [List.getElem?_eq_none (by show 8 ≤ i; exact h)]
    rw [if_neg (by omega)]; rfl
theorem ec62 (z : Nat) : some (.inl (7, 8, .inr (.inr (.inr (.inr (fun i => if i < 8 then some (z + 62 + 1 + i) else none))))) : va_E) = cl0 z 62 := by
  rw [fn62]; rfl
theorem ec63 (z : Nat) : some (.inl (0, 2, .inl (fun _ => 0)) : va_E) = cl0 z 63 := rfl
theorem ec64 (z : Nat) : some (.inl (0, 2, .inl (fun _ => 0)) : va_E) = cl0 z 64 := rfl
theorem ec65 (z : Nat) : some (.inl (0, 2, .inl (fun _ => 0)) : va_E) = cl0 z 65 := rfl
theorem ec66 (z : Nat) : some (.inl (0, 2, .inl (fun _ => 0)) : va_E) = cl0 z 66 := rfl
theorem ec67 (z : Nat) : some (.inl (0, 2, .inl (fun _ => 0)) : va_E) = cl0 z 67 := rfl
theorem ec68 (z : Nat) : some (.inl (0, 2, .inl (fun _ => 0)) : va_E) = cl0 z 68 := rfl
theorem ec69 (z : Nat) : some (.inl (0, 2, .inl (fun _ => 0)) : va_E) = cl0 z 69 := rfl
theorem ec70 (z : Nat) : some (.inl (0, 2, .inl (fun _ => 0)) : va_E) = cl0 z 70 := rfl
theorem fn71 (z : Nat) : (((va_up (va_up (va_up (va_up (va_up (va_up (va_up (fun _ => none) 0 (some (z + 72))) 1 (some (z + 73))) 2 (some (z + 74))) 3 (some (z + 75))) 4 (some (z + 76))) 5 (some (z + 77))) 6 (some (z + 78))) : Nat → Option Nat)) = fun i => (([72, 73, 74, 75, 76, 77, 78] : List Nat)[i]?).map (fun r => z + r) := by
  funext i
  rcases (show i = 0 ∨ i = 1 ∨ i = 2 ∨ i = 3 ∨ i = 4 ∨ i = 5 ∨ i = 6 ∨ 7 ≤ i by omega) with rfl | rfl | rfl | rfl | rfl | rfl | rfl | h
  · rfl
  · rfl
  · rfl
  · rfl
  · rfl
  · rfl
  · rfl
  · rw [List.getElem?_eq_none (by show 7 ≤ i; exact h)]
    simp only [va_up]; rw [if_neg (by omega), if_neg (by omega), if_neg (by omega), if_neg (by omega), if_neg (by omega), if_neg (by omega), if_neg (by omega)]; rfl
theorem ec71 (z : Nat) : some (.inl (5, 7, .inr (.inr (.inr (.inr (va_up (va_up (va_up (va_up (va_up (va_up (va_up (fun _ => none) 0 (some (z + 72))) 1 (some (z + 73))) 2 (some (z + 74))) 3 (some (z + 75))) 4 (some (z + 76))) 5 (some (z + 77))) 6 (some (z + 78))))))) : va_E) = cl0 z 71 := by
  rw [fn71]; rfl
theorem ec72 (z : Nat) : some (.inr (7, []) : va_E) = cl0 z 72 := rfl
theorem ec73 (z : Nat) : some (.inr (4, []) : va_E) = cl0 z 73 := rfl
theorem ec74 (z : Nat) : some (.inr (3, []) : va_E) = cl0 z 74 := rfl
theorem ec75 (z : Nat) : some (.inr (1, []) : va_E) = cl0 z 75 := rfl
theorem ec76 (z : Nat) : some (.inr (0, []) : va_E) = cl0 z 76 := rfl
theorem ec77 (z : Nat) : some (.inr (2, []) : va_E) = cl0 z 77 := rfl
theorem ec78 (z : Nat) : some (.inr (9, []) : va_E) = cl0 z 78 := rfl
theorem ec79 (z : Nat) : some (.inr (5, [.int 6, .ref (z + 80), .int 0, .ref (z + 81), .int 0, .ref (z + 82), .int 0, .int 0, .int 0]) : va_E) = cl0 z 79 := rfl
theorem ec80 (z : Nat) : some (.inl (0, 100, .inl (fun _ => 0)) : va_E) = cl0 z 80 := rfl
theorem ec81 (z : Nat) : some (.inl (0, 11, .inl (fun _ => 0)) : va_E) = cl0 z 81 := rfl
theorem ec82 (z : Nat) : some (.inl (1, 0, .inl (fun _ => 0)) : va_E) = cl0 z 82 := rfl
theorem fn83 (z : Nat) : (((va_up (va_up (va_up (va_up (va_up (va_up (fun _ => none) 0 (some (z + 90))) 1 (some (z + 94))) 2 (some (z + 98))) 3 (some (z + 102))) 4 (some (z + 106))) 5 (some (z + 110))) : Nat → Option Nat)) = fun i => (([90, 94, 98, 102, 106, 110] : List Nat)[i]?).map (fun r => z + r) := by
  funext i
  rcases (show i = 0 ∨ i = 1 ∨ i = 2 ∨ i = 3 ∨ i = 4 ∨ i = 5 ∨ 6 ≤ i by omega) with rfl | rfl | rfl | rfl | rfl | rfl | h
  · rfl
  · rfl
  · rfl
  · rfl
  · rfl
  · rfl
  · rw [List.getElem?_eq_none (by show 6 ≤ i; exact h)]
    simp only [va_up]; rw [if_neg (by omega), if_neg (by omega), if_neg (by omega), if_neg (by omega), if_neg (by omega), if_neg (by omega)]; rfl
theorem ec83 (z : Nat) : some (.inl (4, 6, .inr (.inr (.inr (.inr (va_up (va_up (va_up (va_up (va_up (va_up (fun _ => none) 0 (some (z + 90))) 1 (some (z + 94))) 2 (some (z + 98))) 3 (some (z + 102))) 4 (some (z + 106))) 5 (some (z + 110))))))) : va_E) = cl0 z 83 := by
  rw [fn83]; rfl
theorem ec84 (z : Nat) : some (.inl (1, 100, .inl (fun _ => 0)) : va_E) = cl0 z 84 := rfl
theorem ec85 (z : Nat) : some (.inr (10, [.int 0, .int 0, .int 0, .ref (z + 86)]) : va_E) = cl0 z 85 := rfl
theorem ec86 (z : Nat) : some (.inl (0, 20, .inl (fun _ => 0)) : va_E) = cl0 z 86 := rfl
theorem fn87 (z : Nat) : (((va_up (va_up (va_up (va_up (va_up (va_up (fun _ => none) 0 (some (z + 114))) 1 (some (z + 116))) 2 (some (z + 118))) 3 (some (z + 120))) 4 (some (z + 122))) 5 (some (z + 124))) : Nat → Option Nat)) = fun i => (([114, 116, 118, 120, 122, 124] : List Nat)[i]?).map (fun r => z + r) := by
  funext i
  rcases (show i = 0 ∨ i = 1 ∨ i = 2 ∨ i = 3 ∨ i = 4 ∨ i = 5 ∨ 6 ≤ i by omega) with rfl | rfl | rfl | rfl | rfl | rfl | h
  · rfl
  · rfl
  · rfl
  · rfl
  · rfl
  · rfl
  · rw [List.getElem?_eq_none (by show 6 ≤ i; exact h)]
    simp only [va_up]; rw [if_neg (by omega), if_neg (by omega), if_neg (by omega), if_neg (by omega), if_neg (by omega), if_neg (by omega)]; rfl
theorem ec87 (z : Nat) : some (.inl (6, 6, .inr (.inr (.inr (.inr (va_up (va_up (va_up (va_up (va_up (va_up (fun _ => none) 0 (some (z + 114))) 1 (some (z + 116))) 2 (some (z + 118))) 3 (some (z + 120))) 4 (some (z + 122))) 5 (some (z + 124))))))) : va_E) = cl0 z 87 := by
  rw [fn87]; rfl
theorem ec88 (z : Nat) : some (.inl (0, 8, .inl (fun _ => 0)) : va_E) = cl0 z 88 := rfl
theorem ec89 (z : Nat) : some (.inl (0, 6, .inl (fun _ => 0)) : va_E) = cl0 z 89 := rfl
theorem ec90 (z : Nat) : some (.inr (5, [.int 6, .ref (z + 91), .int 0, .ref (z + 92), .int 0, .ref (z + 93), .int 0, .int 0, .int 0]) : va_E) = cl0 z 90 := rfl
theorem ec91 (z : Nat) : some (.inl (0, 100, .inl (fun _ => 0)) : va_E) = cl0 z 91 := rfl
theorem ec92 (z : Nat) : some (.inl (0, 11, .inl (fun _ => 0)) : va_E) = cl0 z 92 := rfl
theorem ec93 (z : Nat) : some (.inl (1, 0, .inl (fun _ => 0)) : va_E) = cl0 z 93 := rfl
theorem ec94 (z : Nat) : some (.inr (5, [.int 6, .ref (z + 95), .int 0, .ref (z + 96), .int 0, .ref (z + 97), .int 0, .int 0, .int 0]) : va_E) = cl0 z 94 := rfl
theorem ec95 (z : Nat) : some (.inl (0, 100, .inl (fun _ => 0)) : va_E) = cl0 z 95 := rfl
theorem ec96 (z : Nat) : some (.inl (0, 11, .inl (fun _ => 0)) : va_E) = cl0 z 96 := rfl
theorem ec97 (z : Nat) : some (.inl (1, 0, .inl (fun _ => 0)) : va_E) = cl0 z 97 := rfl
theorem ec98 (z : Nat) : some (.inr (5, [.int 6, .ref (z + 99), .int 0, .ref (z + 100), .int 0, .ref (z + 101), .int 0, .int 0, .int 0]) : va_E) = cl0 z 98 := rfl
theorem ec99 (z : Nat) : some (.inl (0, 100, .inl (fun _ => 0)) : va_E) = cl0 z 99 := rfl
theorem ec100 (z : Nat) : some (.inl (0, 11, .inl (fun _ => 0)) : va_E) = cl0 z 100 := rfl
theorem ec101 (z : Nat) : some (.inl (1, 0, .inl (fun _ => 0)) : va_E) = cl0 z 101 := rfl
theorem ec102 (z : Nat) : some (.inr (5, [.int 6, .ref (z + 103), .int 0, .ref (z + 104), .int 0, .ref (z + 105), .int 0, .int 0, .int 0]) : va_E) = cl0 z 102 := rfl
theorem ec103 (z : Nat) : some (.inl (0, 100, .inl (fun _ => 0)) : va_E) = cl0 z 103 := rfl
theorem ec104 (z : Nat) : some (.inl (0, 11, .inl (fun _ => 0)) : va_E) = cl0 z 104 := rfl
theorem ec105 (z : Nat) : some (.inl (1, 0, .inl (fun _ => 0)) : va_E) = cl0 z 105 := rfl
theorem ec106 (z : Nat) : some (.inr (5, [.int 6, .ref (z + 107), .int 0, .ref (z + 108), .int 0, .ref (z + 109), .int 0, .int 0, .int 0]) : va_E) = cl0 z 106 := rfl
theorem ec107 (z : Nat) : some (.inl (0, 100, .inl (fun _ => 0)) : va_E) = cl0 z 107 := rfl
theorem ec108 (z : Nat) : some (.inl (0, 11, .inl (fun _ => 0)) : va_E) = cl0 z 108 := rfl
theorem ec109 (z : Nat) : some (.inl (1, 0, .inl (fun _ => 0)) : va_E) = cl0 z 109 := rfl
theorem ec110 (z : Nat) : some (.inr (5, [.int 6, .ref (z + 111), .int 0, .ref (z + 112), .int 0, .ref (z + 113), .int 0, .int 0, .int 0]) : va_E) = cl0 z 110 := rfl
theorem ec111 (z : Nat) : some (.inl (0, 100, .inl (fun _ => 0)) : va_E) = cl0 z 111 := rfl
theorem ec112 (z : Nat) : some (.inl (0, 11, .inl (fun _ => 0)) : va_E) = cl0 z 112 := rfl
theorem ec113 (z : Nat) : some (.inl (1, 0, .inl (fun _ => 0)) : va_E) = cl0 z 113 := rfl
theorem ec114 (z : Nat) : some (.inr (8, [.int (-1), .int 0, .ref (z + 115)]) : va_E) = cl0 z 114 := rfl
theorem ec115 (z : Nat) : some (.inl (3, 60, .inr (.inl (fun _ => 0))) : va_E) = cl0 z 115 := rfl
theorem ec116 (z : Nat) : some (.inr (8, [.int (-1), .int 0, .ref (z + 117)]) : va_E) = cl0 z 116 := rfl
theorem ec117 (z : Nat) : some (.inl (3, 60, .inr (.inl (fun _ => 0))) : va_E) = cl0 z 117 := rfl
theorem ec118 (z : Nat) : some (.inr (8, [.int (-1), .int 0, .ref (z + 119)]) : va_E) = cl0 z 118 := rfl
theorem ec119 (z : Nat) : some (.inl (3, 60, .inr (.inl (fun _ => 0))) : va_E) = cl0 z 119 := rfl
theorem ec120 (z : Nat) : some (.inr (8, [.int (-1), .int 0, .ref (z + 121)]) : va_E) = cl0 z 120 := rfl
theorem ec121 (z : Nat) : some (.inl (3, 60, .inr (.inl (fun _ => 0))) : va_E) = cl0 z 121 := rfl
theorem ec122 (z : Nat) : some (.inr (8, [.int (-1), .int 0, .ref (z + 123)]) : va_E) = cl0 z 122 := rfl
theorem ec123 (z : Nat) : some (.inl (3, 60, .inr (.inl (fun _ => 0))) : va_E) = cl0 z 123 := rfl
theorem ec124 (z : Nat) : some (.inr (8, [.int (-1), .int 0, .ref (z + 125)]) : va_E) = cl0 z 124 := rfl
theorem ec125 (z : Nat) : some (.inl (3, 60, .inr (.inl (fun _ => 0))) : va_E) = cl0 z 125 := rfl
theorem ec126 (z : Nat) : some (.inr (12, [.ref (z + 127), .ref (z + 128), .ref (z + 129), .int 0, .ref (z + 130), .int 0, .ref (z + 131), .ref (z + 132), .int 0, .ref (z + 133), .int 0, .int 0, .int 0, .int 0, .int 0, .int 0, .ref (z + 134), .ref (z + 135), .ref (z + 136), .ref (z + 137), .ref (z + 138), .ref (z + 139), .ref (z + 140), .int 0, .ref (z + 141), .ref (z + 142), .ref (z + 143), .ref (z + 144)]) : va_E) = cl0 z 126 := by
  show _ = some ((.inr (12, List.mapIdx (mkF z M00 126) [some 127, some 128, some 129, none, some 130, none, some 131, some 132, none, some 133, none, none, none, none, none, none, some 134, some 135, some 136, some 137, some 138, some 139, some 140, none, some 141, some 142, some 143, some 144])) : va_E)
  simp only [List.mapIdx_cons, List.mapIdx_nil]
  rfl
theorem ec127 (z : Nat) : some (.inl (0, 140, .inl (fun _ => 0)) : va_E) = cl0 z 127 := rfl
theorem ec128 (z : Nat) : some (.inl (0, 140, .inl (fun _ => 0)) : va_E) = cl0 z 128 := rfl
theorem ec129 (z : Nat) : some (.inl (0, 140, .inl (fun _ => 0)) : va_E) = cl0 z 129 := rfl
theorem ec130 (z : Nat) : some (.inl (0, 100, .inl (fun _ => 0)) : va_E) = cl0 z 130 := rfl
theorem ec131 (z : Nat) : some (.inl (0, 600, .inl (fun _ => 0)) : va_E) = cl0 z 131 := rfl
theorem ec132 (z : Nat) : some (.inl (0, 6, .inl (fun _ => 0)) : va_E) = cl0 z 132 := rfl
theorem ec133 (z : Nat) : some (.inl (0, 100, .inl (fun _ => 0)) : va_E) = cl0 z 133 := rfl
theorem ec134 (z : Nat) : some (.inl (0, 6, .inl (fun _ => 0)) : va_E) = cl0 z 134 := rfl
theorem ec135 (z : Nat) : some (.inl (2, 6, .inl Q135) : va_E) = cl0 z 135 := rfl
theorem ec136 (z : Nat) : some (.inl (2, 3, .inl Q136) : va_E) = cl0 z 136 := rfl
theorem ec137 (z : Nat) : some (.inl (2, 15, .inl Q137) : va_E) = cl0 z 137 := rfl
theorem ec138 (z : Nat) : some (.inl (0, 7, .inl Q138) : va_E) = cl0 z 138 := rfl
theorem ec139 (z : Nat) : some (.inl (0, 21, .inl Q139) : va_E) = cl0 z 139 := rfl
theorem ec140 (z : Nat) : some (.inl (0, 20, .inl (fun _ => 0)) : va_E) = cl0 z 140 := rfl
theorem ec141 (z : Nat) : some (.inl (0, 6, .inl Q141) : va_E) = cl0 z 141 := rfl
theorem ec142 (z : Nat) : some (.inl (0, 6, .inl (fun _ => 0)) : va_E) = cl0 z 142 := rfl
theorem ec143 (z : Nat) : some (.inl (3, 360, .inr (.inl (fun _ => 0))) : va_E) = cl0 z 143 := rfl
theorem ec144 (z : Nat) : some (.inl (3, 60, .inr (.inl (fun _ => 0))) : va_E) = cl0 z 144 := rfl
