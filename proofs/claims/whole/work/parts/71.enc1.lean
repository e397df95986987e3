def lxP (z : Nat) : List va_E := [.inr (11, [.ref (z + 1), .ref (z + 36), .int 0, .ref (z + 71), .ref (z + 79), .ref (z + 83), .int 0, .ref (z + 84), .int 0, .ref (z + 85), .ref (z + 87), .ref (z + 88), .ref (z + 89)]),
  .inr (6, [.int 0, .ref (z + 2), .ref (z + 3), .ref (z + 4), .ref (z + 5), .int 0, .ref (z + 6), .ref (z + 7), .ref (z + 8), .int 0, .ref (z + 9), .int 0, .int 0, .int (-1), .int 0, .ref (z + 10), .int 0, .ref (z + 16), .int 0, .ref (z + 27)]),
  .inl (0, 6, .inl (fun _ => 0)),
  .inl (0, 6, .inl (fun _ => 0)),
  .inl (0, 6, .inl (fun _ => 0)),
  .inl (0, 24, .inl (fun _ => 0)),
  .inl (0, 8, .inl (fun _ => 0)),
  .inl (0, 8, .inl (fun _ => 0)),
  .inl (0, 8, .inl (fun _ => 0)),
  .inl (0, 5, .inl (fun _ => 0)),
  .inl (7, 5, .inr (.inr (.inr (.inr (fun i => if i < 5 then some (z + 10 + 1 + i) else none))))),
  .inl (0, 4, .inl (fun _ => 0)),
  .inl (0, 4, .inl (fun _ => 0)),
  .inl (0, 4, .inl (fun _ => 0)),
  .inl (0, 4, .inl (fun _ => 0)),
  .inl (0, 4, .inl (fun _ => 0)),
  .inl (7, 10, .inr (.inr (.inr (.inr (fun i => if i < 10 then some (z + 16 + 1 + i) else none))))),
  .inl (0, 2, .inl (fun _ => 0)),
  .inl (0, 2, .inl (fun _ => 0)),
  .inl (0, 2, .inl (fun _ => 0)),
  .inl (0, 2, .inl (fun _ => 0)),
  .inl (0, 2, .inl (fun _ => 0)),
  .inl (0, 2, .inl (fun _ => 0)),
  .inl (0, 2, .inl (fun _ => 0)),
  .inl (0, 2, .inl (fun _ => 0)),
  .inl (0, 2, .inl (fun _ => 0)),
  .inl (0, 2, .inl (fun _ => 0)),
  .inl (7, 8, .inr (.inr (.inr (.inr (fun i => if i < 8 then some (z + 27 + 1 + i) else none))))),
  .inl (0, 2, .inl (fun _ => 0)),
  .inl (0, 2, .inl (fun _ => 0)),
  .inl (0, 2, .inl (fun _ => 0)),
  .inl (0, 2, .inl (fun _ => 0)),
  .inl (0, 2, .inl (fun _ => 0)),
  .inl (0, 2, .inl (fun _ => 0)),
  .inl (0, 2, .inl (fun _ => 0)),
  .inl (0, 2, .inl (fun _ => 0)),
  .inr (6, [.int 0, .ref (z + 37), .ref (z + 38), .ref (z + 39), .ref (z + 40), .int 0, .ref (z + 41), .ref (z + 42), .ref (z + 43), .int 0, .ref (z + 44), .int 0, .int 0, .int (-1), .int 0, .ref (z + 45), .int 0, .ref (z + 51), .int 0, .ref (z + 62)]),
  .inl (0, 6, .inl (fun _ => 0)),
  .inl (0, 6, .inl (fun _ => 0)),
  .inl (0, 6, .inl (fun _ => 0)),
  .inl (0, 24, .inl (fun _ => 0)),
  .inl (0, 8, .inl (fun _ => 0)),
  .inl (0, 8, .inl (fun _ => 0)),
  .inl (0, 8, .inl (fun _ => 0)),
  .inl (0, 5, .inl (fun _ => 0)),
  .inl (7, 5, .inr (.inr (.inr (.inr (fun i => if i < 5 then some (z + 45 + 1 + i) else none))))),
  .inl (0, 4, .inl (fun _ => 0)),
  .inl (0, 4, .inl (fun _ => 0)),
  .inl (0, 4, .inl (fun _ => 0)),
  .inl (0, 4, .inl (fun _ => 0)),
  .inl (0, 4, .inl (fun _ => 0)),
  .inl (7, 10, .inr (.inr (.inr (.inr (fun i => if i < 10 then some (z + 51 + 1 + i) else none))))),
  .inl (0, 2, .inl (fun _ => 0)),
  .inl (0, 2, .inl (fun _ => 0)),
  .inl (0, 2, .inl (fun _ => 0)),
  .inl (0, 2, .inl (fun _ => 0)),
  .inl (0, 2, .inl (fun _ => 0)),
  .inl (0, 2, .inl (fun _ => 0)),
  .inl (0, 2, .inl (fun _ => 0)),
  .inl (0, 2, .inl (fun _ => 0)),
  .inl (0, 2, .inl (fun _ => 0)),
  .inl (0, 2, .inl (fun _ => 0)),
  .inl (7, 8, .inr (.inr (.inr (.inr (fun i => if i < 8 then some (z + 62 + 1 + i) else none))))),
  .inl (0, 2, .inl (fun _ => 0)),
  .inl (0, 2, .inl (fun _ => 0)),
  .inl (0, 2, .inl (fun _ => 0)),
  .inl (0, 2, .inl (fun _ => 0)),
  .inl (0, 2, .inl (fun _ => 0)),
  .inl (0, 2, .inl (fun _ => 0)),
  .inl (0, 2, .inl (fun _ => 0)),
  .inl (0, 2, .inl (fun _ => 0)),
  .inl (5, 7, .inr (.inr (.inr (.inr (va_up (va_up (va_up (va_up (va_up (va_up (va_up (fun _ => none) 0 (some (z + 72))) 1 (some (z + 73))) 2 (some (z + 74))) 3 (some (z + 75))) 4 (some (z + 76))) 5 (some (z + 77))) 6 (some (z + 78))))))),
  .inr (7, []),
  .inr (4, []),
  .inr (3, []),
  .inr (1, []),
  .inr (0, []),
  .inr (2, []),
  .inr (9, []),
  .inr (5, [.int 6, .ref (z + 80), .int 0, .ref (z + 81), .int 0, .ref (z + 82), .int 0, .int 0, .int 0]),
  .inl (0, 100, .inl (fun _ => 0)),
  .inl (0, 11, .inl (fun _ => 0)),
  .inl (1, 0, .inl (fun _ => 0))]
def lxS (z : Nat) : List va_E := [.inl (4, 6, .inr (.inr (.inr (.inr (va_up (va_up (va_up (va_up (va_up (va_up (fun _ => none) 0 (some (z + 90))) 1 (some (z + 94))) 2 (some (z + 98))) 3 (some (z + 102))) 4 (some (z + 106))) 5 (some (z + 110))))))),
  .inl (1, 100, .inl (fun _ => 0)),
  .inr (10, [.int 0, .int 0, .int 0, .ref (z + 86)]),
  .inl (0, 20, .inl (fun _ => 0)),
  .inl (6, 6, .inr (.inr (.inr (.inr (va_up (va_up (va_up (va_up (va_up (va_up (fun _ => none) 0 (some (z + 114))) 1 (some (z + 116))) 2 (some (z + 118))) 3 (some (z + 120))) 4 (some (z + 122))) 5 (some (z + 124))))))),
  .inl (0, 8, .inl (fun _ => 0)),
  .inl (0, 6, .inl (fun _ => 0)),
  .inr (5, [.int 6, .ref (z + 91), .int 0, .ref (z + 92), .int 0, .ref (z + 93), .int 0, .int 0, .int 0]),
  .inl (0, 100, .inl (fun _ => 0)),
  .inl (0, 11, .inl (fun _ => 0)),
  .inl (1, 0, .inl (fun _ => 0)),
  .inr (5, [.int 6, .ref (z + 95), .int 0, .ref (z + 96), .int 0, .ref (z + 97), .int 0, .int 0, .int 0]),
  .inl (0, 100, .inl (fun _ => 0)),
  .inl (0, 11, .inl (fun _ => 0)),
  .inl (1, 0, .inl (fun _ => 0)),
  .inr (5, [.int 6, .ref (z + 99), .int 0, .ref (z + 100), .int 0, .ref (z + 101), .int 0, .int 0, .int 0]),
  .inl (0, 100, .inl (fun _ => 0)),
  .inl (0, 11, .inl (fun _ => 0)),
  .inl (1, 0, .inl (fun _ => 0)),
  .inr (5, [.int 6, .ref (z + 103), .int 0, .ref (z + 104), .int 0, .ref (z + 105), .int 0, .int 0, .int 0]),
  .inl (0, 100, .inl (fun _ => 0)),
  .inl (0, 11, .inl (fun _ => 0)),
  .inl (1, 0, .inl (fun _ => 0)),
  .inr (5, [.int 6, .ref (z + 107), .int 0, .ref (z + 108), .int 0, .ref (z + 109), .int 0, .int 0, .int 0]),
  .inl (0, 100, .inl (fun _ => 0)),
  .inl (0, 11, .inl (fun _ => 0)),
  .inl (1, 0, .inl (fun _ => 0)),
  .inr (5, [.int 6, .ref (z + 111), .int 0, .ref (z + 112), .int 0, .ref (z + 113), .int 0, .int 0, .int 0]),
  .inl (0, 100, .inl (fun _ => 0)),
  .inl (0, 11, .inl (fun _ => 0)),
  .inl (1, 0, .inl (fun _ => 0)),
  .inr (8, [.int (-1), .int 0, .ref (z + 115)]),
  .inl (3, 60, .inr (.inl (fun _ => 0))),
  .inr (8, [.int (-1), .int 0, .ref (z + 117)]),
  .inl (3, 60, .inr (.inl (fun _ => 0))),
  .inr (8, [.int (-1), .int 0, .ref (z + 119)]),
  .inl (3, 60, .inr (.inl (fun _ => 0))),
  .inr (8, [.int (-1), .int 0, .ref (z + 121)]),
  .inl (3, 60, .inr (.inl (fun _ => 0))),
  .inr (8, [.int (-1), .int 0, .ref (z + 123)]),
  .inl (3, 60, .inr (.inl (fun _ => 0))),
  .inr (8, [.int (-1), .int 0, .ref (z + 125)]),
  .inl (3, 60, .inr (.inl (fun _ => 0)))]
def lxT (z : Nat) : List va_E := [.inr (12, [.ref (z + 127), .ref (z + 128), .ref (z + 129), .int 0, .ref (z + 130), .int 0, .ref (z + 131), .ref (z + 132), .int 0, .ref (z + 133), .int 0, .int 0, .int 0, .int 0, .int 0, .int 0, .ref (z + 134), .ref (z + 135), .ref (z + 136), .ref (z + 137), .ref (z + 138), .ref (z + 139), .ref (z + 140), .int 0, .ref (z + 141), .ref (z + 142), .ref (z + 143), .ref (z + 144)]),
  .inl (0, 140, .inl (fun _ => 0)),
  .inl (0, 140, .inl (fun _ => 0)),
  .inl (0, 140, .inl (fun _ => 0)),
  .inl (0, 100, .inl (fun _ => 0)),
  .inl (0, 600, .inl (fun _ => 0)),
  .inl (0, 6, .inl (fun _ => 0)),
  .inl (0, 100, .inl (fun _ => 0)),
  .inl (0, 6, .inl (fun _ => 0)),
  .inl (2, 6, .inl Q135),
  .inl (2, 3, .inl Q136),
  .inl (2, 15, .inl Q137),
  .inl (0, 7, .inl Q138),
  .inl (0, 21, .inl Q139),
  .inl (0, 20, .inl (fun _ => 0)),
  .inl (0, 6, .inl Q141),
  .inl (0, 6, .inl (fun _ => 0)),
  .inl (3, 360, .inr (.inl (fun _ => 0))),
  .inl (3, 60, .inr (.inl (fun _ => 0)))]
def lx (z : Nat) : List va_E := [.inr (11, [.ref (z + 1), .ref (z + 36), .int 0, .ref (z + 71), .ref (z + 79), .ref (z + 83), .int 0, .ref (z + 84), .int 0, .ref (z + 85), .ref (z + 87), .ref (z + 88), .ref (z + 89)]),
  .inr (6, [.int 0, .ref (z + 2), .ref (z + 3), .ref (z + 4), .ref (z + 5), .int 0, .ref (z + 6), .ref (z + 7), .ref (z + 8), .int 0, .ref (z + 9), .int 0, .int 0, .int (-1), .int 0, .ref (z + 10), .int 0, .ref (z + 16), .int 0, .ref (z + 27)]),
  .inl (0, 6, .inl (fun _ => 0)),
  .inl (0, 6, .inl (fun _ => 0)),
  .inl (0, 6, .inl (fun _ => 0)),
  .inl (0, 24, .inl (fun _ => 0)),
  .inl (0, 8, .inl (fun _ => 0)),
  .inl (0, 8, .inl (fun _ => 0)),
  .inl (0, 8, .inl (fun _ => 0)),
  .inl (0, 5, .inl (fun _ => 0)),
  .inl (7, 5, .inr (.inr (.inr (.inr (fun i => if i < 5 then some (z + 10 + 1 + i) else none))))),
  .inl (0, 4, .inl (fun _ => 0)),
  .inl (0, 4, .inl (fun _ => 0)),
  .inl (0, 4, .inl (fun _ => 0)),
  .inl (0, 4, .inl (fun _ => 0)),
  .inl (0, 4, .inl (fun _ => 0)),
  .inl (7, 10, .inr (.inr (.inr (.inr (fun i => if i < 10 then some (z + 16 + 1 + i) else none))))),
  .inl (0, 2, .inl (fun _ => 0)),
  .inl (0, 2, .inl (fun _ => 0)),
  .inl (0, 2, .inl (fun _ => 0)),
  .inl (0, 2, .inl (fun _ => 0)),
  .inl (0, 2, .inl (fun _ => 0)),
  .inl (0, 2, .inl (fun _ => 0)),
  .inl (0, 2, .inl (fun _ => 0)),
  .inl (0, 2, .inl (fun _ => 0)),
  .inl (0, 2, .inl (fun _ => 0)),
  .inl (0, 2, .inl (fun _ => 0)),
  .inl (7, 8, .inr (.inr (.inr (.inr (fun i => if i < 8 then some (z + 27 + 1 + i) else none))))),
  .inl (0, 2, .inl (fun _ => 0)),
  .inl (0, 2, .inl (fun _ => 0)),
  .inl (0, 2, .inl (fun _ => 0)),
  .inl (0, 2, .inl (fun _ => 0)),
  .inl (0, 2, .inl (fun _ => 0)),
  .inl (0, 2, .inl (fun _ => 0)),
  .inl (0, 2, .inl (fun _ => 0)),
  .inl (0, 2, .inl (fun _ => 0)),
  .inr (6, [.int 0, .ref (z + 37), .ref (z + 38), .ref (z + 39), .ref (z + 40), .int 0, .ref (z + 41), .ref (z + 42), .ref (z + 43), .int 0, .ref (z + 44), .int 0, .int 0, .int (-1), .int 0, .ref (z + 45), .int 0, .ref (z + 51), .int 0, .ref (z + 62)]),
  .inl (0, 6, .inl (fun _ => 0)),
  .inl (0, 6, .inl (fun _ => 0)),
  .inl (0, 6, .inl (fun _ => 0)),
  .inl (0, 24, .inl (fun _ => 0)),
  .inl (0, 8, .inl (fun _ => 0)),
  .inl (0, 8, .inl (fun _ => 0)),
  .inl (0, 8, .inl (fun _ => 0)),
  .inl (0, 5, .inl (fun _ => 0)),
  .inl (7, 5, .inr (.inr (.inr (.inr (fun i => if i < 5 then some (z + 45 + 1 + i) else none))))),
  .inl (0, 4, .inl (fun _ => 0)),
  .inl (0, 4, .inl (fun _ => 0)),
  .inl (0, 4, .inl (fun _ => 0)),
  .inl (0, 4, .inl (fun _ => 0)),
  .inl (0, 4, .inl (fun _ => 0)),
  .inl (7, 10, .inr (.inr (.inr (.inr (fun i => if i < 10 then some (z + 51 + 1 + i) else none))))),
  .inl (0, 2, .inl (fun _ => 0)),
  .inl (0, 2, .inl (fun _ => 0)),
  .inl (0, 2, .inl (fun _ => 0)),
  .inl (0, 2, .inl (fun _ => 0)),
  .inl (0, 2, .inl (fun _ => 0)),
  .inl (0, 2, .inl (fun _ => 0)),
  .inl (0, 2, .inl (fun _ => 0)),
  .inl (0, 2, .inl (fun _ => 0)),
  .inl (0, 2, .inl (fun _ => 0)),
  .inl (0, 2, .inl (fun _ => 0)),
  .inl (7, 8, .inr (.inr (.inr (.inr (fun i => if i < 8 then some (z + 62 + 1 + i) else none))))),
  .inl (0, 2, .inl (fun _ => 0)),
  .inl (0, 2, .inl (fun _ => 0)),
  .inl (0, 2, .inl (fun _ => 0)),
  .inl (0, 2, .inl (fun _ => 0)),
  .inl (0, 2, .inl (fun _ => 0)),
  .inl (0, 2, .inl (fun _ => 0)),
  .inl (0, 2, .inl (fun _ => 0)),
  .inl (0, 2, .inl (fun _ => 0)),
  .inl (5, 7, .inr (.inr (.inr (.inr (va_up (va_up (va_up (va_up (va_up (va_up (va_up (fun _ => none) 0 (some (z + 72))) 1 (some (z + 73))) 2 (some (z + 74))) 3 (some (z + 75))) 4 (some (z + 76))) 5 (some (z + 77))) 6 (some (z + 78))))))),
  .inr (7, []),
  .inr (4, []),
  .inr (3, []),
  .inr (1, []),
  .inr (0, []),
  .inr (2, []),
  .inr (9, []),
  .inr (5, [.int 6, .ref (z + 80), .int 0, .ref (z + 81), .int 0, .ref (z + 82), .int 0, .int 0, .int 0]),
  .inl (0, 100, .inl (fun _ => 0)),
  .inl (0, 11, .inl (fun _ => 0)),
  .inl (1, 0, .inl (fun _ => 0)),
  .inl (4, 6, .inr (.inr (.inr (.inr (va_up (va_up (va_up (va_up (va_up (va_up (fun _ => none) 0 (some (z + 90))) 1 (some (z + 94))) 2 (some (z + 98))) 3 (some (z + 102))) 4 (some (z + 106))) 5 (some (z + 110))))))),
  .inl (1, 100, .inl (fun _ => 0)),
  .inr (10, [.int 0, .int 0, .int 0, .ref (z + 86)]),
  .inl (0, 20, .inl (fun _ => 0)),
  .inl (6, 6, .inr (.inr (.inr (.inr (va_up (va_up (va_up (va_up (va_up (va_up (fun _ => none) 0 (some (z + 114))) 1 (some (z + 116))) 2 (some (z + 118))) 3 (some (z + 120))) 4 (some (z + 122))) 5 (some (z + 124))))))),
  .inl (0, 8, .inl (fun _ => 0)),
  .inl (0, 6, .inl (fun _ => 0)),
  .inr (5, [.int 6, .ref (z + 91), .int 0, .ref (z + 92), .int 0, .ref (z + 93), .int 0, .int 0, .int 0]),
  .inl (0, 100, .inl (fun _ => 0)),
  .inl (0, 11, .inl (fun _ => 0)),
  .inl (1, 0, .inl (fun _ => 0)),
  .inr (5, [.int 6, .ref (z + 95), .int 0, .ref (z + 96), .int 0, .ref (z + 97), .int 0, .int 0, .int 0]),
  .inl (0, 100, .inl (fun _ => 0)),
  .inl (0, 11, .inl (fun _ => 0)),
  .inl (1, 0, .inl (fun _ => 0)),
  .inr (5, [.int 6, .ref (z + 99), .int 0, .ref (z + 100), .int 0, .ref (z + 101), .int 0, .int 0, .int 0]),
  .inl (0, 100, .inl (fun _ => 0)),
  .inl (0, 11, .inl (fun _ => 0)),
  .inl (1, 0, .inl (fun _ => 0)),
  .inr (5, [.int 6, .ref (z + 103), .int 0, .ref (z + 104), .int 0, .ref (z + 105), .int 0, .int 0, .int 0]),
  .inl (0, 100, .inl (fun _ => 0)),
  .inl (0, 11, .inl (fun _ => 0)),
  .inl (1, 0, .inl (fun _ => 0)),
  .inr (5, [.int 6, .ref (z + 107), .int 0, .ref (z + 108), .int 0, .ref (z + 109), .int 0, .int 0, .int 0]),
  .inl (0, 100, .inl (fun _ => 0)),
  .inl (0, 11, .inl (fun _ => 0)),
  .inl (1, 0, .inl (fun _ => 0)),
  .inr (5, [.int 6, .ref (z + 111), .int 0, .ref (z + 112), .int 0, .ref (z + 113), .int 0, .int 0, .int 0]),
  .inl (0, 100, .inl (fun _ => 0)),
  .inl (0, 11, .inl (fun _ => 0)),
  .inl (1, 0, .inl (fun _ => 0)),
  .inr (8, [.int (-1), .int 0, .ref (z + 115)]),
  .inl (3, 60, .inr (.inl (fun _ => 0))),
  .inr (8, [.int (-1), .int 0, .ref (z + 117)]),
  .inl (3, 60, .inr (.inl (fun _ => 0))),
  .inr (8, [.int (-1), .int 0, .ref (z + 119)]),
  .inl (3, 60, .inr (.inl (fun _ => 0))),
  .inr (8, [.int (-1), .int 0, .ref (z + 121)]),
  .inl (3, 60, .inr (.inl (fun _ => 0))),
  .inr (8, [.int (-1), .int 0, .ref (z + 123)]),
  .inl (3, 60, .inr (.inl (fun _ => 0))),
  .inr (8, [.int (-1), .int 0, .ref (z + 125)]),
  .inl (3, 60, .inr (.inl (fun _ => 0))),
  .inr (12, [.ref (z + 127), .ref (z + 128), .ref (z + 129), .int 0, .ref (z + 130), .int 0, .ref (z + 131), .ref (z + 132), .int 0, .ref (z + 133), .int 0, .int 0, .int 0, .int 0, .int 0, .int 0, .ref (z + 134), .ref (z + 135), .ref (z + 136), .ref (z + 137), .ref (z + 138), .ref (z + 139), .ref (z + 140), .int 0, .ref (z + 141), .ref (z + 142), .ref (z + 143), .ref (z + 144)]),
  .inl (0, 140, .inl (fun _ => 0)),
  .inl (0, 140, .inl (fun _ => 0)),
  .inl (0, 140, .inl (fun _ => 0)),
  .inl (0, 100, .inl (fun _ => 0)),
  .inl (0, 600, .inl (fun _ => 0)),
  .inl (0, 6, .inl (fun _ => 0)),
  .inl (0, 100, .inl (fun _ => 0)),
  .inl (0, 6, .inl (fun _ => 0)),
  .inl (2, 6, .inl Q135),
  .inl (2, 3, .inl Q136),
  .inl (2, 15, .inl Q137),
  .inl (0, 7, .inl Q138),
  .inl (0, 21, .inl Q139),
  .inl (0, 20, .inl (fun _ => 0)),
  .inl (0, 6, .inl Q141),
  .inl (0, 6, .inl (fun _ => 0)),
  .inl (3, 360, .inr (.inl (fun _ => 0))),
  .inl (3, 60, .inr (.inl (fun _ => 0)))]
set_option maxRecDepth 20000 in
theorem lxP_eq (z : Nat) : bkP z = lxP z := rfl
set_option maxRecDepth 20000 in
theorem lxS_eq (z : Nat) : bkS z = lxS z := rfl
set_option maxRecDepth 20000 in
theorem lxT_eq (z : Nat) : bk12 (z + 126) = lxT z := rfl
set_option maxRecDepth 20000 in
theorem lx_eq (z : Nat) : (bkP z ++ bkS z) ++ bk12 (z + 126) = lx z := by
  rw [lxP_eq, lxS_eq, lxT_eq]
  simp only [lxP, lxS, lxT, lx, List.cons_append, List.nil_append]
theorem lx_len (z : Nat) : (lx z).length = 145 := by
  simp only [lx, List.length_cons, List.length_nil]
theorem lx_at (z k : Nat) (hk : k < 145) : (lx z)[k]? = cl0 z k := by
  obtain ⟨q, r, hr, rfl⟩ : ∃ q r, r < 12 ∧ k = 12 * q + r := ⟨k / 12, k % 12, Nat.mod_lt _ (by omega), by omega⟩
  rcases (show q = 0 ∨ q = 1 ∨ q = 2 ∨ q = 3 ∨ q = 4 ∨ q = 5 ∨ q = 6 ∨ q = 7 ∨ q = 8 ∨ q = 9 ∨ q = 10 ∨ q = 11 ∨ q = 12 by omega) with rfl | rfl | rfl | rfl | rfl | rfl | rfl | rfl | rfl | rfl | rfl | rfl | rfl
  · rcases (show r = 0 ∨ r = 1 ∨ r = 2 ∨ r = 3 ∨ r = 4 ∨ r = 5 ∨ r = 6 ∨ r = 7 ∨ r = 8 ∨ r = 9 ∨ r = 10 ∨ r = 11 by omega) with rfl | rfl | rfl | rfl | rfl | rfl | rfl | rfl | rfl | rfl | rfl | rfl
    · exact ec0 z
    · exact ec1 z
    · exact ec2 z
    · exact ec3 z
    · exact ec4 z
    · exact ec5 z
    · exact ec6 z
    · exact ec7 z
    · exact ec8 z
    · exact ec9 z
    · exact ec10 z
    · exact ec11 z
  · rcases (show r = 0 ∨ r = 1 ∨ r = 2 ∨ r = 3 ∨ r = 4 ∨ r = 5 ∨ r = 6 ∨ r = 7 ∨ r = 8 ∨ r = 9 ∨ r = 10 ∨ r = 11 by omega) with rfl | rfl | rfl | rfl | rfl | rfl | rfl | rfl | rfl | rfl | rfl | rfl
    · exact ec12 z
    · exact ec13 z
    · exact ec14 z
    · exact ec15 z
    · exact ec16 z
    · exact ec17 z
    · exact ec18 z
    · exact ec19 z
    · exact ec20 z
    · exact ec21 z
    · exact ec22 z
    · exact ec23 z
  · rcases (show r = 0 ∨ r = 1 ∨ r = 2 ∨ r = 3 ∨ r = 4 ∨ r = 5 ∨ r = 6 ∨ r = 7 ∨ r = 8 ∨ r = 9 ∨ r = 10 ∨ r = 11 by omega) with rfl | rfl | rfl | rfl | rfl | rfl | rfl | rfl | rfl | rfl | rfl | rfl
    · exact ec24 z
    · exact ec25 z
    · exact ec26 z
    · exact ec27 z
    · exact ec28 z
    · exact ec29 z
    · exact ec30 z
    · exact ec31 z
    · exact ec32 z
    · exact ec33 z
    · exact ec34 z
    · exact ec35 z
  · rcases (show r = 0 ∨ r = 1 ∨ r = 2 ∨ r = 3 ∨ r = 4 ∨ r = 5 ∨ r = 6 ∨ r = 7 ∨ r = 8 ∨ r = 9 ∨ r = 10 ∨ r = 11 by omega) with rfl | rfl | rfl | rfl | rfl | rfl | rfl | rfl | rfl | rfl | rfl | rfl
    · exact ec36 z
    · exact ec37 z
    · exact ec38 z
    · exact ec39 z
    · exact ec40 z
    · exact ec41 z
    · exact ec42 z
    · exact ec43 z
    · exact ec44 z
    · exact ec45 z
    · exact ec46 z
    · exact ec47 z
  · rcases (show r = 0 ∨ r = 1 ∨ r = 2 ∨ r = 3 ∨ r = 4 ∨ r = 5 ∨ r = 6 ∨ r = 7 ∨ r = 8 ∨ r = 9 ∨ r = 10 ∨ r = 11 by omega) with rfl | rfl | rfl | rfl | rfl | rfl | rfl | rfl | rfl | rfl | rfl | rfl
    · exact ec48 z
    · exact ec49 z
    · exact ec50 z
    · exact ec51 z
    · exact ec52 z
    · exact ec53 z
    · exact ec54 z
    · exact ec55 z
    · exact ec56 z
    · exact ec57 z
    · exact ec58 z
    · exact ec59 z
  · rcases (show r = 0 ∨ r = 1 ∨ r = 2 ∨ r = 3 ∨ r = 4 ∨ r = 5 ∨ r = 6 ∨ r = 7 ∨ r = 8 ∨ r = 9 ∨ r = 10 ∨ r = 11 by omega) with rfl | rfl | rfl | rfl | rfl | rfl | rfl | rfl | rfl | rfl | rfl | rfl
    · exact ec60 z
    · exact ec61 z
    · exact ec62 z
    · exact ec63 z
    · exact ec64 z
    · exact ec65 z
    · exact ec66 z
    · exact ec67 z
    · exact ec68 z
    · exact ec69 z
    · exact ec70 z
    · exact ec71 z
  · rcases (show r = 0 ∨ r = 1 ∨ r = 2 ∨ r = 3 ∨ r = 4 ∨ r = 5 ∨ r = 6 ∨ r = 7 ∨ r = 8 ∨ r = 9 ∨ r = 10 ∨ r = 11 by omega) with rfl | rfl | rfl | rfl | rfl | rfl | rfl | rfl | rfl | rfl | rfl | rfl
    · exact ec72 z
    · exact ec73 z
    · exact ec74 z
    · exact ec75 z
    · exact ec76 z
    · exact ec77 z
    · exact ec78 z
    · exact ec79 z
    · exact ec80 z
    · exact ec81 z
    · exact ec82 z
    · exact ec83 z
  · rcases (show r = 0 ∨ r = 1 ∨ r = 2 ∨ r = 3 ∨ r = 4 ∨ r = 5 ∨ r = 6 ∨ r = 7 ∨ r = 8 ∨ r = 9 ∨ r = 10 ∨ r = 11 by omega) with rfl | rfl | rfl | rfl | rfl | rfl | rfl | rfl | rfl | rfl | rfl | rfl
    · exact ec84 z
    · exact ec85 z
    · exact ec86 z
    · exact ec87 z
    · exact ec88 z
    · exact ec89 z
    · exact ec90 z
    · exact ec91 z
    · exact ec92 z
    · exact ec93 z
    · exact ec94 z
    · exact ec95 z
  · rcases (show r = 0 ∨ r = 1 ∨ r = 2 ∨ r = 3 ∨ r = 4 ∨ r = 5 ∨ r = 6 ∨ r = 7 ∨ r = 8 ∨ r = 9 ∨ r = 10 ∨ r = 11 by omega) with rfl | rfl | rfl | rfl | rfl | rfl | rfl | rfl | rfl | rfl | rfl | rfl
    · exact ec96 z
    · exact ec97 z
    · exact ec98 z
    · exact ec99 z
    · exact ec100 z
    · exact ec101 z
    · exact ec102 z
    · exact ec103 z
    · exact ec104 z
    · exact ec105 z
    · exact ec106 z
    · exact ec107 z
  · rcases (show r = 0 ∨ r = 1 ∨ r = 2 ∨ r = 3 ∨ r = 4 ∨ r = 5 ∨ r = 6 ∨ r = 7 ∨ r = 8 ∨ r = 9 ∨ r = 10 ∨ r = 11 by omega) with rfl | rfl | rfl | rfl | rfl | rfl | rfl | rfl | rfl | rfl | rfl | rfl
    · exact ec108 z
    · exact ec109 z
    · exact ec110 z
    · exact ec111 z
    · exact ec112 z
    · exact ec113 z
    · exact ec114 z
    · exact ec115 z
    · exact ec116 z
    · exact ec117 z
    · exact ec118 z
    · exact ec119 z
  · rcases (show r = 0 ∨ r = 1 ∨ r = 2 ∨ r = 3 ∨ r = 4 ∨ r = 5 ∨ r = 6 ∨ r = 7 ∨ r = 8 ∨ r = 9 ∨ r = 10 ∨ r = 11 by omega) with rfl | rfl | rfl | rfl | rfl | rfl | rfl | rfl | rfl | rfl | rfl | rfl
    · exact ec120 z
    · exact ec121 z
    · exact ec122 z
    · exact ec123 z
    · exact ec124 z
    · exact ec125 z
    · exact ec126 z
    · exact ec127 z
    · exact ec128 z
    · exact ec129 z
    · exact ec130 z
    · exact ec131 z
  · rcases (show r = 0 ∨ r = 1 ∨ r = 2 ∨ r = 3 ∨ r = 4 ∨ r = 5 ∨ r = 6 ∨ r = 7 ∨ r = 8 ∨ r = 9 ∨ r = 10 ∨ r = 11 by omega) with rfl | rfl | rfl | rfl | rfl | rfl | rfl | rfl | rfl | rfl | rfl | rfl
    · exact ec132 z
    · exact ec133 z
    · exact ec134 z
    · exact ec135 z
    · exact ec136 z
    · exact ec137 z
    · exact ec138 z
    · exact ec139 z
    · exact ec140 z
    · exact ec141 z
    · exact ec142 z
    · exact ec143 z
  · rcases (show r = 0 ∨ r = 1 ∨ r = 2 ∨ r = 3 ∨ r = 4 ∨ r = 5 ∨ r = 6 ∨ r = 7 ∨ r = 8 ∨ r = 9 ∨ r = 10 ∨ r = 11 by omega) with rfl | rfl | rfl | rfl | rfl | rfl | rfl | rfl | rfl | rfl | rfl | rfl
    · exact ec144 z
    · exact absurd hk (by decide)
    · exact absurd hk (by decide)
    · exact absurd hk (by decide)
    · exact absurd hk (by decide)
    · exact absurd hk (by decide)
    · exact absurd hk (by decide)
    · exact absurd hk (by decide)
    · exact absurd hk (by decide)
    · exact absurd hk (by decide)
    · exact absurd hk (by decide)
    · exact absurd hk (by decide)
theorem sh_hi {B : Nat → Nat} {k : Nat} (h : 145 ≤ k) : shp B k = none := by
  unfold shp
  rw [if_neg (by omega), if_neg (by omega), if_neg (by omega), if_neg (by omega), if_neg (by omega), if_neg (by omega), if_neg (by omega), if_neg (by omega), if_neg (by omega), if_neg (by omega), if_neg (by omega), if_neg (by omega), if_neg (by omega), if_neg (by omega), if_neg (by omega)]
  unfold shM
  split <;> first | omega | rfl
theorem ex_enc (z : Nat) : ex (z, fun _ => none) ((bkP z ++ bkS z) ++ bk12 (z + 126)) = enc z M00 := by
  rw [lx_eq]
  refine Prod.ext (by show z + (lx z).length = z + 145; rw [lx_len]) (funext fun a => ?_)
  show (if a < z then none else (lx z)[a - z]?) = if z ≤ a then cl0 z (a - z) else none
  by_cases h : a < z
  · rw [if_pos h, if_neg (by omega)]
  · rw [if_neg h, if_pos (by omega)]
    by_cases h2 : a - z < 145
    · exact lx_at z (a - z) h2
    · rw [List.getElem?_eq_none (by rw [lx_len]; omega)]
      unfold cl0
      rw [sh_hi (by omega)]; rfl
