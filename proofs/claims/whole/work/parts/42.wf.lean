theorem updN_eq {R : Nat → Nat} {k x : Nat} : updN R k x k = x := by unfold updN; rw [if_pos rfl]
theorem updN_ne {R : Nat → Nat} {k x j : Nat} (h : j ≠ k) : updN R k x j = R j := by unfold updN; rw [if_neg h]
theorem WF_mind {R : Nat → Nat} {hc : Nat} (hW : WF R hc) {p x : Nat} (hp : p < 6) (hx : x < 256) : WF (updN R (7 * p + 2) x) hc := by
  obtain ⟨w1, w2, w3, w4, w5, w6, w7, w8, w9, w10, w11, w12, w13, w14⟩ := hW
  refine ⟨?_, ?_, ?_, ?_, ?_, ?_, ?_, ?_, fun p' hp' => ?_, fun i hi => ?_, fun f' hf' => ?_, fun r hr => ?_, fun r hr => ?_, fun r hr => ?_⟩
  · (simp only [updN]; (repeat' split) <;> omega)
  · (simp only [updN]; (repeat' split) <;> omega)
  · (simp only [updN]; (repeat' split) <;> omega)
  · (simp only [updN]; (repeat' split) <;> omega)
  · (simp only [updN]; (repeat' split) <;> omega)
  · (simp only [updN]; (repeat' split) <;> omega)
  · (simp only [updN]; (repeat' split) <;> omega)
  · (simp only [updN]; (repeat' split) <;> omega)
  · have k := w9 p' hp'
    refine ⟨?_, ?_, ?_, fun q' hq' => ?_⟩
    · (simp only [updN]; (repeat' split) <;> omega)
    · (simp only [updN]; (repeat' split) <;> omega)
    · (simp only [updN]; (repeat' split) <;> omega)
    · have kq := k.2.2.2 q' hq'
      (simp only [updN]; (repeat' split) <;> omega)
  · rcases Nat.lt_or_ge i (R 77) with h' | h'
    · have k := w10 i h'
      refine ⟨?_, ?_, ?_⟩ <;> (simp only [updN]; (repeat' split) <;> omega)
    · (simp only [updN] at hi; (repeat' split at hi) <;> (first | omega | skip))
      all_goals (refine ⟨?_, ?_, ?_⟩ <;> (simp only [updN]; (repeat' split) <;> omega))
  · have k := w11 f' hf'
    refine ⟨?_, ?_, fun q => ?_⟩
    · (simp only [updN]; (repeat' split) <;> omega)
    · (simp only [updN]; (repeat' split) <;> omega)
    · (simp only [updN] at q ⊢; (repeat' split at q) <;> (repeat' split) <;> omega)
  · rcases Nat.lt_or_ge r (R 81) with h' | h'
    · have k := w12 r h'
      refine ⟨?_, ?_, ?_, ?_⟩ <;> (simp only [updN]; (repeat' split) <;> omega)
    · (simp only [updN] at hr; (repeat' split at hr) <;> (first | omega | skip))
      all_goals (refine ⟨?_, ?_, ?_, ?_⟩ <;> (simp only [updN]; (repeat' split) <;> omega))
  · rcases Nat.lt_or_ge r (R 102) with h' | h'
    · have k := w13 r h'
      (simp only [updN]; (repeat' split) <;> omega)
    · (simp only [updN] at hr; (repeat' split at hr) <;> (first | omega | skip))
      all_goals (simp only [updN]; (repeat' split) <;> omega)
  · rcases Nat.lt_or_ge r (R 123) with h' | h'
    · have k := w14 r h'
      refine ⟨?_, ?_⟩ <;> (simp only [updN]; (repeat' split) <;> omega)
    · (simp only [updN] at hr; (repeat' split at hr) <;> (first | omega | skip))
      all_goals (refine ⟨?_, ?_⟩ <;> (simp only [updN]; (repeat' split) <;> omega))
theorem WF_row {R : Nat → Nat} {hc : Nat} (hW : WF R hc) {p q x : Nat} (hp : p < 6) (hq : q < 4) (hx : x < 10) : WF (updN R (7 * p + 3 + q) x) hc := by
  obtain ⟨w1, w2, w3, w4, w5, w6, w7, w8, w9, w10, w11, w12, w13, w14⟩ := hW
  refine ⟨?_, ?_, ?_, ?_, ?_, ?_, ?_, ?_, fun p' hp' => ?_, fun i hi => ?_, fun f' hf' => ?_, fun r hr => ?_, fun r hr => ?_, fun r hr => ?_⟩
  · (simp only [updN]; (repeat' split) <;> omega)
  · (simp only [updN]; (repeat' split) <;> omega)
  · (simp only [updN]; (repeat' split) <;> omega)
  · (simp only [updN]; (repeat' split) <;> omega)
  · (simp only [updN]; (repeat' split) <;> omega)
  · (simp only [updN]; (repeat' split) <;> omega)
  · (simp only [updN]; (repeat' split) <;> omega)
  · (simp only [updN]; (repeat' split) <;> omega)
  · have k := w9 p' hp'
    refine ⟨?_, ?_, ?_, fun q' hq' => ?_⟩
    · (simp only [updN]; (repeat' split) <;> omega)
    · (simp only [updN]; (repeat' split) <;> omega)
    · (simp only [updN]; (repeat' split) <;> omega)
    · have kq := k.2.2.2 q' hq'
      (simp only [updN]; (repeat' split) <;> omega)
  · rcases Nat.lt_or_ge i (R 77) with h' | h'
    · have k := w10 i h'
      refine ⟨?_, ?_, ?_⟩ <;> (simp only [updN]; (repeat' split) <;> omega)
    · (simp only [updN] at hi; (repeat' split at hi) <;> (first | omega | skip))
      all_goals (refine ⟨?_, ?_, ?_⟩ <;> (simp only [updN]; (repeat' split) <;> omega))
  · have k := w11 f' hf'
    refine ⟨?_, ?_, fun q => ?_⟩
    · (simp only [updN]; (repeat' split) <;> omega)
    · (simp only [updN]; (repeat' split) <;> omega)
    · (simp only [updN] at q ⊢; (repeat' split at q) <;> (repeat' split) <;> omega)
  · rcases Nat.lt_or_ge r (R 81) with h' | h'
    · have k := w12 r h'
      refine ⟨?_, ?_, ?_, ?_⟩ <;> (simp only [updN]; (repeat' split) <;> omega)
    · (simp only [updN] at hr; (repeat' split at hr) <;> (first | omega | skip))
      all_goals (refine ⟨?_, ?_, ?_, ?_⟩ <;> (simp only [updN]; (repeat' split) <;> omega))
  · rcases Nat.lt_or_ge r (R 102) with h' | h'
    · have k := w13 r h'
      (simp only [updN]; (repeat' split) <;> omega)
    · (simp only [updN] at hr; (repeat' split at hr) <;> (first | omega | skip))
      all_goals (simp only [updN]; (repeat' split) <;> omega)
  · rcases Nat.lt_or_ge r (R 123) with h' | h'
    · have k := w14 r h'
      refine ⟨?_, ?_⟩ <;> (simp only [updN]; (repeat' split) <;> omega)
    · (simp only [updN] at hr; (repeat' split at hr) <;> (first | omega | skip))
      all_goals (refine ⟨?_, ?_⟩ <;> (simp only [updN]; (repeat' split) <;> omega))
theorem WF_deed {R : Nat → Nat} {hc : Nat} (hW : WF R hc) {p x y : Nat} (hp : p < R 76) (hx : x < 256) (hy : y ≤ 20) (hn : R 77 < 8) : WF (updN (updN (updN (updN R (42 + 3 * R 77) p) (42 + 3 * R 77 + 1) x) (42 + 3 * R 77 + 2) y) 77 (R 77 + 1)) hc := by
  obtain ⟨w1, w2, w3, w4, w5, w6, w7, w8, w9, w10, w11, w12, w13, w14⟩ := hW
  refine ⟨?_, ?_, ?_, ?_, ?_, ?_, ?_, ?_, fun p' hp' => ?_, fun i hi => ?_, fun f' hf' => ?_, fun r hr => ?_, fun r hr => ?_, fun r hr => ?_⟩
  · (simp only [updN]; (repeat' split) <;> omega)
  · (simp only [updN]; (repeat' split) <;> omega)
  · (simp only [updN]; (repeat' split) <;> omega)
  · (simp only [updN]; (repeat' split) <;> omega)
  · (simp only [updN]; (repeat' split) <;> omega)
  · (simp only [updN]; (repeat' split) <;> omega)
  · (simp only [updN]; (repeat' split) <;> omega)
  · (simp only [updN]; (repeat' split) <;> omega)
  · have k := w9 p' hp'
    refine ⟨?_, ?_, ?_, fun q' hq' => ?_⟩
    · (simp only [updN]; (repeat' split) <;> omega)
    · (simp only [updN]; (repeat' split) <;> omega)
    · (simp only [updN]; (repeat' split) <;> omega)
    · have kq := k.2.2.2 q' hq'
      (simp only [updN]; (repeat' split) <;> omega)
  · rcases Nat.lt_or_ge i (R 77) with h' | h'
    · have k := w10 i h'
      refine ⟨?_, ?_, ?_⟩ <;> (simp only [updN]; (repeat' split) <;> omega)
    · (simp only [updN] at hi; (repeat' split at hi) <;> (first | omega | skip))
      all_goals (refine ⟨?_, ?_, ?_⟩ <;> (simp only [updN]; (repeat' split) <;> omega))
  · have k := w11 f' hf'
    refine ⟨?_, ?_, fun q => ?_⟩
    · (simp only [updN]; (repeat' split) <;> omega)
    · (simp only [updN]; (repeat' split) <;> omega)
    · (simp only [updN] at q ⊢; (repeat' split at q) <;> (repeat' split) <;> omega)
  · rcases Nat.lt_or_ge r (R 81) with h' | h'
    · have k := w12 r h'
      refine ⟨?_, ?_, ?_, ?_⟩ <;> (simp only [updN]; (repeat' split) <;> omega)
    · (simp only [updN] at hr; (repeat' split at hr) <;> (first | omega | skip))
      all_goals (refine ⟨?_, ?_, ?_, ?_⟩ <;> (simp only [updN]; (repeat' split) <;> omega))
  · rcases Nat.lt_or_ge r (R 102) with h' | h'
    · have k := w13 r h'
      (simp only [updN]; (repeat' split) <;> omega)
    · (simp only [updN] at hr; (repeat' split at hr) <;> (first | omega | skip))
      all_goals (simp only [updN]; (repeat' split) <;> omega)
  · rcases Nat.lt_or_ge r (R 123) with h' | h'
    · have k := w14 r h'
      refine ⟨?_, ?_⟩ <;> (simp only [updN]; (repeat' split) <;> omega)
    · (simp only [updN] at hr; (repeat' split at hr) <;> (first | omega | skip))
      all_goals (refine ⟨?_, ?_⟩ <;> (simp only [updN]; (repeat' split) <;> omega))
theorem WF_foot {R : Nat → Nat} {hc : Nat} (hW : WF R hc) {x : Nat} (hx : x < 256) (hn : R 78 < 5) : WF (updN (updN (updN R (66 + 2 * R 78) x) (66 + 2 * R 78 + 1) 0) 78 (R 78 + 1)) hc := by
  obtain ⟨w1, w2, w3, w4, w5, w6, w7, w8, w9, w10, w11, w12, w13, w14⟩ := hW
  refine ⟨?_, ?_, ?_, ?_, ?_, ?_, ?_, ?_, fun p' hp' => ?_, fun i hi => ?_, fun f' hf' => ?_, fun r hr => ?_, fun r hr => ?_, fun r hr => ?_⟩
  · (simp only [updN]; (repeat' split) <;> omega)
  · (simp only [updN]; (repeat' split) <;> omega)
  · (simp only [updN]; (repeat' split) <;> omega)
  · (simp only [updN]; (repeat' split) <;> omega)
  · (simp only [updN]; (repeat' split) <;> omega)
  · (simp only [updN]; (repeat' split) <;> omega)
  · (simp only [updN]; (repeat' split) <;> omega)
  · (simp only [updN]; (repeat' split) <;> omega)
  · have k := w9 p' hp'
    refine ⟨?_, ?_, ?_, fun q' hq' => ?_⟩
    · (simp only [updN]; (repeat' split) <;> omega)
    · (simp only [updN]; (repeat' split) <;> omega)
    · (simp only [updN]; (repeat' split) <;> omega)
    · have kq := k.2.2.2 q' hq'
      (simp only [updN]; (repeat' split) <;> omega)
  · rcases Nat.lt_or_ge i (R 77) with h' | h'
    · have k := w10 i h'
      refine ⟨?_, ?_, ?_⟩ <;> (simp only [updN]; (repeat' split) <;> omega)
    · (simp only [updN] at hi; (repeat' split at hi) <;> (first | omega | skip))
      all_goals (refine ⟨?_, ?_, ?_⟩ <;> (simp only [updN]; (repeat' split) <;> omega))
  · have k := w11 f' hf'
    refine ⟨?_, ?_, fun q => ?_⟩
    · (simp only [updN]; (repeat' split) <;> omega)
    · (simp only [updN]; (repeat' split) <;> omega)
    · (simp only [updN] at q ⊢; (repeat' split at q) <;> (repeat' split) <;> omega)
  · rcases Nat.lt_or_ge r (R 81) with h' | h'
    · have k := w12 r h'
      refine ⟨?_, ?_, ?_, ?_⟩ <;> (simp only [updN]; (repeat' split) <;> omega)
    · (simp only [updN] at hr; (repeat' split at hr) <;> (first | omega | skip))
      all_goals (refine ⟨?_, ?_, ?_, ?_⟩ <;> (simp only [updN]; (repeat' split) <;> omega))
  · rcases Nat.lt_or_ge r (R 102) with h' | h'
    · have k := w13 r h'
      (simp only [updN]; (repeat' split) <;> omega)
    · (simp only [updN] at hr; (repeat' split at hr) <;> (first | omega | skip))
      all_goals (simp only [updN]; (repeat' split) <;> omega)
  · rcases Nat.lt_or_ge r (R 123) with h' | h'
    · have k := w14 r h'
      refine ⟨?_, ?_⟩ <;> (simp only [updN]; (repeat' split) <;> omega)
    · (simp only [updN] at hr; (repeat' split at hr) <;> (first | omega | skip))
      all_goals (refine ⟨?_, ?_⟩ <;> (simp only [updN]; (repeat' split) <;> omega))
theorem WF_out {R : Nat → Nat} {hc : Nat} (hW : WF R hc) {f x : Nat} (hf : f < R 78) (hx : x ≤ 1) : WF (updN R (66 + 2 * f + 1) x) hc := by
  obtain ⟨w1, w2, w3, w4, w5, w6, w7, w8, w9, w10, w11, w12, w13, w14⟩ := hW
  refine ⟨?_, ?_, ?_, ?_, ?_, ?_, ?_, ?_, fun p' hp' => ?_, fun i hi => ?_, fun f' hf' => ?_, fun r hr => ?_, fun r hr => ?_, fun r hr => ?_⟩
  · (simp only [updN]; (repeat' split) <;> omega)
  · (simp only [updN]; (repeat' split) <;> omega)
  · (simp only [updN]; (repeat' split) <;> omega)
  · (simp only [updN]; (repeat' split) <;> omega)
  · (simp only [updN]; (repeat' split) <;> omega)
  · (simp only [updN]; (repeat' split) <;> omega)
  · (simp only [updN]; (repeat' split) <;> omega)
  · (simp only [updN]; (repeat' split) <;> omega)
  · have k := w9 p' hp'
    refine ⟨?_, ?_, ?_, fun q' hq' => ?_⟩
    · (simp only [updN]; (repeat' split) <;> omega)
    · (simp only [updN]; (repeat' split) <;> omega)
    · (simp only [updN]; (repeat' split) <;> omega)
    · have kq := k.2.2.2 q' hq'
      (simp only [updN]; (repeat' split) <;> omega)
  · rcases Nat.lt_or_ge i (R 77) with h' | h'
    · have k := w10 i h'
      refine ⟨?_, ?_, ?_⟩ <;> (simp only [updN]; (repeat' split) <;> omega)
    · (simp only [updN] at hi; (repeat' split at hi) <;> (first | omega | skip))
      all_goals (refine ⟨?_, ?_, ?_⟩ <;> (simp only [updN]; (repeat' split) <;> omega))
  · have k := w11 f' hf'
    refine ⟨?_, ?_, fun q => ?_⟩
    · (simp only [updN]; (repeat' split) <;> omega)
    · (simp only [updN]; (repeat' split) <;> omega)
    · (simp only [updN] at q ⊢; (repeat' split at q) <;> (repeat' split) <;> omega)
  · rcases Nat.lt_or_ge r (R 81) with h' | h'
    · have k := w12 r h'
      refine ⟨?_, ?_, ?_, ?_⟩ <;> (simp only [updN]; (repeat' split) <;> omega)
    · (simp only [updN] at hr; (repeat' split at hr) <;> (first | omega | skip))
      all_goals (refine ⟨?_, ?_, ?_, ?_⟩ <;> (simp only [updN]; (repeat' split) <;> omega))
  · rcases Nat.lt_or_ge r (R 102) with h' | h'
    · have k := w13 r h'
      (simp only [updN]; (repeat' split) <;> omega)
    · (simp only [updN] at hr; (repeat' split at hr) <;> (first | omega | skip))
      all_goals (simp only [updN]; (repeat' split) <;> omega)
  · rcases Nat.lt_or_ge r (R 123) with h' | h'
    · have k := w14 r h'
      refine ⟨?_, ?_⟩ <;> (simp only [updN]; (repeat' split) <;> omega)
    · (simp only [updN] at hr; (repeat' split at hr) <;> (first | omega | skip))
      all_goals (refine ⟨?_, ?_⟩ <;> (simp only [updN]; (repeat' split) <;> omega))
theorem WF_see {R : Nat → Nat} {hc : Nat} (hW : WF R hc) {p f n b : Nat} (hp : p < R 76) (hf : f < 8) (hn2 : n ≤ 20) (hb : b ≤ 1) (hn : R 81 < 5) : WF (updN (updN (updN (updN (updN R (82 + 4 * R 81) p) (82 + 4 * R 81 + 1) f) (82 + 4 * R 81 + 2) n) (82 + 4 * R 81 + 3) b) 81 (R 81 + 1)) hc := by
  obtain ⟨w1, w2, w3, w4, w5, w6, w7, w8, w9, w10, w11, w12, w13, w14⟩ := hW
  refine ⟨?_, ?_, ?_, ?_, ?_, ?_, ?_, ?_, fun p' hp' => ?_, fun i hi => ?_, fun f' hf' => ?_, fun r hr => ?_, fun r hr => ?_, fun r hr => ?_⟩
  · (simp only [updN]; (repeat' split) <;> omega)
  · (simp only [updN]; (repeat' split) <;> omega)
  · (simp only [updN]; (repeat' split) <;> omega)
  · (simp only [updN]; (repeat' split) <;> omega)
  · (simp only [updN]; (repeat' split) <;> omega)
  · (simp only [updN]; (repeat' split) <;> omega)
  · (simp only [updN]; (repeat' split) <;> omega)
  · (simp only [updN]; (repeat' split) <;> omega)
  · have k := w9 p' hp'
    refine ⟨?_, ?_, ?_, fun q' hq' => ?_⟩
    · (simp only [updN]; (repeat' split) <;> omega)
    · (simp only [updN]; (repeat' split) <;> omega)
    · (simp only [updN]; (repeat' split) <;> omega)
    · have kq := k.2.2.2 q' hq'
      (simp only [updN]; (repeat' split) <;> omega)
  · rcases Nat.lt_or_ge i (R 77) with h' | h'
    · have k := w10 i h'
      refine ⟨?_, ?_, ?_⟩ <;> (simp only [updN]; (repeat' split) <;> omega)
    · (simp only [updN] at hi; (repeat' split at hi) <;> (first | omega | skip))
      all_goals (refine ⟨?_, ?_, ?_⟩ <;> (simp only [updN]; (repeat' split) <;> omega))
  · have k := w11 f' hf'
    refine ⟨?_, ?_, fun q => ?_⟩
    · (simp only [updN]; (repeat' split) <;> omega)
    · (simp only [updN]; (repeat' split) <;> omega)
    · (simp only [updN] at q ⊢; (repeat' split at q) <;> (repeat' split) <;> omega)
  · rcases Nat.lt_or_ge r (R 81) with h' | h'
    · have k := w12 r h'
      refine ⟨?_, ?_, ?_, ?_⟩ <;> (simp only [updN]; (repeat' split) <;> omega)
    · (simp only [updN] at hr; (repeat' split at hr) <;> (first | omega | skip))
      all_goals (refine ⟨?_, ?_, ?_, ?_⟩ <;> (simp only [updN]; (repeat' split) <;> omega))
  · rcases Nat.lt_or_ge r (R 102) with h' | h'
    · have k := w13 r h'
      (simp only [updN]; (repeat' split) <;> omega)
    · (simp only [updN] at hr; (repeat' split at hr) <;> (first | omega | skip))
      all_goals (simp only [updN]; (repeat' split) <;> omega)
  · rcases Nat.lt_or_ge r (R 123) with h' | h'
    · have k := w14 r h'
      refine ⟨?_, ?_⟩ <;> (simp only [updN]; (repeat' split) <;> omega)
    · (simp only [updN] at hr; (repeat' split at hr) <;> (first | omega | skip))
      all_goals (refine ⟨?_, ?_⟩ <;> (simp only [updN]; (repeat' split) <;> omega))
theorem WF_see0 {R : Nat → Nat} {hc : Nat} (hW : WF R hc)  : WF (updN R 81 0) hc := by
  obtain ⟨w1, w2, w3, w4, w5, w6, w7, w8, w9, w10, w11, w12, w13, w14⟩ := hW
  refine ⟨?_, ?_, ?_, ?_, ?_, ?_, ?_, ?_, fun p' hp' => ?_, fun i hi => ?_, fun f' hf' => ?_, fun r hr => ?_, fun r hr => ?_, fun r hr => ?_⟩
  · (simp only [updN]; (repeat' split) <;> omega)
  · (simp only [updN]; (repeat' split) <;> omega)
  · (simp only [updN]; (repeat' split) <;> omega)
  · (simp only [updN]; (repeat' split) <;> omega)
  · (simp only [updN]; (repeat' split) <;> omega)
  · (simp only [updN]; (repeat' split) <;> omega)
  · (simp only [updN]; (repeat' split) <;> omega)
  · (simp only [updN]; (repeat' split) <;> omega)
  · have k := w9 p' hp'
    refine ⟨?_, ?_, ?_, fun q' hq' => ?_⟩
    · (simp only [updN]; (repeat' split) <;> omega)
    · (simp only [updN]; (repeat' split) <;> omega)
    · (simp only [updN]; (repeat' split) <;> omega)
    · have kq := k.2.2.2 q' hq'
      (simp only [updN]; (repeat' split) <;> omega)
  · rcases Nat.lt_or_ge i (R 77) with h' | h'
    · have k := w10 i h'
      refine ⟨?_, ?_, ?_⟩ <;> (simp only [updN]; (repeat' split) <;> omega)
    · (simp only [updN] at hi; (repeat' split at hi) <;> (first | omega | skip))
      all_goals (refine ⟨?_, ?_, ?_⟩ <;> (simp only [updN]; (repeat' split) <;> omega))
  · have k := w11 f' hf'
    refine ⟨?_, ?_, fun q => ?_⟩
    · (simp only [updN]; (repeat' split) <;> omega)
    · (simp only [updN]; (repeat' split) <;> omega)
    · (simp only [updN] at q ⊢; (repeat' split at q) <;> (repeat' split) <;> omega)
  · rcases Nat.lt_or_ge r (R 81) with h' | h'
    · have k := w12 r h'
      refine ⟨?_, ?_, ?_, ?_⟩ <;> (simp only [updN]; (repeat' split) <;> omega)
    · (simp only [updN] at hr; (repeat' split at hr) <;> (first | omega | skip))
      all_goals (refine ⟨?_, ?_, ?_, ?_⟩ <;> (simp only [updN]; (repeat' split) <;> omega))
  · rcases Nat.lt_or_ge r (R 102) with h' | h'
    · have k := w13 r h'
      (simp only [updN]; (repeat' split) <;> omega)
    · (simp only [updN] at hr; (repeat' split at hr) <;> (first | omega | skip))
      all_goals (simp only [updN]; (repeat' split) <;> omega)
  · rcases Nat.lt_or_ge r (R 123) with h' | h'
    · have k := w14 r h'
      refine ⟨?_, ?_⟩ <;> (simp only [updN]; (repeat' split) <;> omega)
    · (simp only [updN] at hr; (repeat' split at hr) <;> (first | omega | skip))
      all_goals (refine ⟨?_, ?_⟩ <;> (simp only [updN]; (repeat' split) <;> omega))
theorem WF_plan {R : Nat → Nat} {hc : Nat} (hW : WF R hc) {w x : Nat} (hwx : w = 0 ∨ (w = 1 ∧ x < 2147483648 ∧ x / 10 < R 76 ∧ x % 10 < 8) ∨ (w = 2 ∧ x < R 76)) (hn : R 102 < 10) : WF (updN (updN (updN R (103 + 2 * R 102) w) (103 + 2 * R 102 + 1) x) 102 (R 102 + 1)) hc := by
  obtain ⟨w1, w2, w3, w4, w5, w6, w7, w8, w9, w10, w11, w12, w13, w14⟩ := hW
  refine ⟨?_, ?_, ?_, ?_, ?_, ?_, ?_, ?_, fun p' hp' => ?_, fun i hi => ?_, fun f' hf' => ?_, fun r hr => ?_, fun r hr => ?_, fun r hr => ?_⟩
  · (simp only [updN]; (repeat' split) <;> omega)
  · (simp only [updN]; (repeat' split) <;> omega)
  · (simp only [updN]; (repeat' split) <;> omega)
  · (simp only [updN]; (repeat' split) <;> omega)
  · (simp only [updN]; (repeat' split) <;> omega)
  · (simp only [updN]; (repeat' split) <;> omega)
  · (simp only [updN]; (repeat' split) <;> omega)
  · (simp only [updN]; (repeat' split) <;> omega)
  · have k := w9 p' hp'
    refine ⟨?_, ?_, ?_, fun q' hq' => ?_⟩
    · (simp only [updN]; (repeat' split) <;> omega)
    · (simp only [updN]; (repeat' split) <;> omega)
    · (simp only [updN]; (repeat' split) <;> omega)
    · have kq := k.2.2.2 q' hq'
      (simp only [updN]; (repeat' split) <;> omega)
  · rcases Nat.lt_or_ge i (R 77) with h' | h'
    · have k := w10 i h'
      refine ⟨?_, ?_, ?_⟩ <;> (simp only [updN]; (repeat' split) <;> omega)
    · (simp only [updN] at hi; (repeat' split at hi) <;> (first | omega | skip))
      all_goals (refine ⟨?_, ?_, ?_⟩ <;> (simp only [updN]; (repeat' split) <;> omega))
  · have k := w11 f' hf'
    refine ⟨?_, ?_, fun q => ?_⟩
    · (simp only [updN]; (repeat' split) <;> omega)
    · (simp only [updN]; (repeat' split) <;> omega)
    · (simp only [updN] at q ⊢; (repeat' split at q) <;> (repeat' split) <;> omega)
  · rcases Nat.lt_or_ge r (R 81) with h' | h'
    · have k := w12 r h'
      refine ⟨?_, ?_, ?_, ?_⟩ <;> (simp only [updN]; (repeat' split) <;> omega)
    · (simp only [updN] at hr; (repeat' split at hr) <;> (first | omega | skip))
      all_goals (refine ⟨?_, ?_, ?_, ?_⟩ <;> (simp only [updN]; (repeat' split) <;> omega))
  · rcases Nat.lt_or_ge r (R 102) with h' | h'
    · have k := w13 r h'
      (simp only [updN]; (repeat' split) <;> omega)
    · (simp only [updN] at hr; (repeat' split at hr) <;> (first | omega | skip))
      all_goals (simp only [updN]; (repeat' split) <;> omega)
  · rcases Nat.lt_or_ge r (R 123) with h' | h'
    · have k := w14 r h'
      refine ⟨?_, ?_⟩ <;> (simp only [updN]; (repeat' split) <;> omega)
    · (simp only [updN] at hr; (repeat' split at hr) <;> (first | omega | skip))
      all_goals (refine ⟨?_, ?_⟩ <;> (simp only [updN]; (repeat' split) <;> omega))
theorem WF_plan0 {R : Nat → Nat} {hc : Nat} (hW : WF R hc)  : WF (updN R 102 0) hc := by
  obtain ⟨w1, w2, w3, w4, w5, w6, w7, w8, w9, w10, w11, w12, w13, w14⟩ := hW
  refine ⟨?_, ?_, ?_, ?_, ?_, ?_, ?_, ?_, fun p' hp' => ?_, fun i hi => ?_, fun f' hf' => ?_, fun r hr => ?_, fun r hr => ?_, fun r hr => ?_⟩
  · (simp only [updN]; (repeat' split) <;> omega)
  · (simp only [updN]; (repeat' split) <;> omega)
  · (simp only [updN]; (repeat' split) <;> omega)
  · (simp only [updN]; (repeat' split) <;> omega)
  · (simp only [updN]; (repeat' split) <;> omega)
  · (simp only [updN]; (repeat' split) <;> omega)
  · (simp only [updN]; (repeat' split) <;> omega)
  · (simp only [updN]; (repeat' split) <;> omega)
  · have k := w9 p' hp'
    refine ⟨?_, ?_, ?_, fun q' hq' => ?_⟩
    · (simp only [updN]; (repeat' split) <;> omega)
    · (simp only [updN]; (repeat' split) <;> omega)
    · (simp only [updN]; (repeat' split) <;> omega)
    · have kq := k.2.2.2 q' hq'
      (simp only [updN]; (repeat' split) <;> omega)
  · rcases Nat.lt_or_ge i (R 77) with h' | h'
    · have k := w10 i h'
      refine ⟨?_, ?_, ?_⟩ <;> (simp only [updN]; (repeat' split) <;> omega)
    · (simp only [updN] at hi; (repeat' split at hi) <;> (first | omega | skip))
      all_goals (refine ⟨?_, ?_, ?_⟩ <;> (simp only [updN]; (repeat' split) <;> omega))
  · have k := w11 f' hf'
    refine ⟨?_, ?_, fun q => ?_⟩
    · (simp only [updN]; (repeat' split) <;> omega)
    · (simp only [updN]; (repeat' split) <;> omega)
    · (simp only [updN] at q ⊢; (repeat' split at q) <;> (repeat' split) <;> omega)
  · rcases Nat.lt_or_ge r (R 81) with h' | h'
    · have k := w12 r h'
      refine ⟨?_, ?_, ?_, ?_⟩ <;> (simp only [updN]; (repeat' split) <;> omega)
    · (simp only [updN] at hr; (repeat' split at hr) <;> (first | omega | skip))
      all_goals (refine ⟨?_, ?_, ?_, ?_⟩ <;> (simp only [updN]; (repeat' split) <;> omega))
  · rcases Nat.lt_or_ge r (R 102) with h' | h'
    · have k := w13 r h'
      (simp only [updN]; (repeat' split) <;> omega)
    · (simp only [updN] at hr; (repeat' split at hr) <;> (first | omega | skip))
      all_goals (simp only [updN]; (repeat' split) <;> omega)
  · rcases Nat.lt_or_ge r (R 123) with h' | h'
    · have k := w14 r h'
      refine ⟨?_, ?_⟩ <;> (simp only [updN]; (repeat' split) <;> omega)
    · (simp only [updN] at hr; (repeat' split at hr) <;> (first | omega | skip))
      all_goals (refine ⟨?_, ?_⟩ <;> (simp only [updN]; (repeat' split) <;> omega))
theorem WF_book {R : Nat → Nat} {hc : Nat} (hW : WF R hc) {p x : Nat} (hp : p < R 76) (hx : x < 256) (hn : R 123 < 8) : WF (updN (updN (updN R (124 + 2 * R 123) p) (124 + 2 * R 123 + 1) x) 123 (R 123 + 1)) hc := by
  obtain ⟨w1, w2, w3, w4, w5, w6, w7, w8, w9, w10, w11, w12, w13, w14⟩ := hW
  refine ⟨?_, ?_, ?_, ?_, ?_, ?_, ?_, ?_, fun p' hp' => ?_, fun i hi => ?_, fun f' hf' => ?_, fun r hr => ?_, fun r hr => ?_, fun r hr => ?_⟩
  · (simp only [updN]; (repeat' split) <;> omega)
  · (simp only [updN]; (repeat' split) <;> omega)
  · (simp only [updN]; (repeat' split) <;> omega)
  · (simp only [updN]; (repeat' split) <;> omega)
  · (simp only [updN]; (repeat' split) <;> omega)
  · (simp only [updN]; (repeat' split) <;> omega)
  · (simp only [updN]; (repeat' split) <;> omega)
  · (simp only [updN]; (repeat' split) <;> omega)
  · have k := w9 p' hp'
    refine ⟨?_, ?_, ?_, fun q' hq' => ?_⟩
    · (simp only [updN]; (repeat' split) <;> omega)
    · (simp only [updN]; (repeat' split) <;> omega)
    · (simp only [updN]; (repeat' split) <;> omega)
    · have kq := k.2.2.2 q' hq'
      (simp only [updN]; (repeat' split) <;> omega)
  · rcases Nat.lt_or_ge i (R 77) with h' | h'
    · have k := w10 i h'
      refine ⟨?_, ?_, ?_⟩ <;> (simp only [updN]; (repeat' split) <;> omega)
    · (simp only [updN] at hi; (repeat' split at hi) <;> (first | omega | skip))
      all_goals (refine ⟨?_, ?_, ?_⟩ <;> (simp only [updN]; (repeat' split) <;> omega))
  · have k := w11 f' hf'
    refine ⟨?_, ?_, fun q => ?_⟩
    · (simp only [updN]; (repeat' split) <;> omega)
    · (simp only [updN]; (repeat' split) <;> omega)
    · (simp only [updN] at q ⊢; (repeat' split at q) <;> (repeat' split) <;> omega)
  · rcases Nat.lt_or_ge r (R 81) with h' | h'
    · have k := w12 r h'
      refine ⟨?_, ?_, ?_, ?_⟩ <;> (simp only [updN]; (repeat' split) <;> omega)
    · (simp only [updN] at hr; (repeat' split at hr) <;> (first | omega | skip))
      all_goals (refine ⟨?_, ?_, ?_, ?_⟩ <;> (simp only [updN]; (repeat' split) <;> omega))
  · rcases Nat.lt_or_ge r (R 102) with h' | h'
    · have k := w13 r h'
      (simp only [updN]; (repeat' split) <;> omega)
    · (simp only [updN] at hr; (repeat' split at hr) <;> (first | omega | skip))
      all_goals (simp only [updN]; (repeat' split) <;> omega)
  · rcases Nat.lt_or_ge r (R 123) with h' | h'
    · have k := w14 r h'
      refine ⟨?_, ?_⟩ <;> (simp only [updN]; (repeat' split) <;> omega)
    · (simp only [updN] at hr; (repeat' split at hr) <;> (first | omega | skip))
      all_goals (refine ⟨?_, ?_⟩ <;> (simp only [updN]; (repeat' split) <;> omega))
theorem WF_book0 {R : Nat → Nat} {hc : Nat} (hW : WF R hc)  : WF (updN R 123 0) hc := by
  obtain ⟨w1, w2, w3, w4, w5, w6, w7, w8, w9, w10, w11, w12, w13, w14⟩ := hW
  refine ⟨?_, ?_, ?_, ?_, ?_, ?_, ?_, ?_, fun p' hp' => ?_, fun i hi => ?_, fun f' hf' => ?_, fun r hr => ?_, fun r hr => ?_, fun r hr => ?_⟩
  · (simp only [updN]; (repeat' split) <;> omega)
  · (simp only [updN]; (repeat' split) <;> omega)
  · (simp only [updN]; (repeat' split) <;> omega)
  · (simp only [updN]; (repeat' split) <;> omega)
  · (simp only [updN]; (repeat' split) <;> omega)
  · (simp only [updN]; (repeat' split) <;> omega)
  · (simp only [updN]; (repeat' split) <;> omega)
  · (simp only [updN]; (repeat' split) <;> omega)
  · have k := w9 p' hp'
    refine ⟨?_, ?_, ?_, fun q' hq' => ?_⟩
    · (simp only [updN]; (repeat' split) <;> omega)
    · (simp only [updN]; (repeat' split) <;> omega)
    · (simp only [updN]; (repeat' split) <;> omega)
    · have kq := k.2.2.2 q' hq'
      (simp only [updN]; (repeat' split) <;> omega)
  · rcases Nat.lt_or_ge i (R 77) with h' | h'
    · have k := w10 i h'
      refine ⟨?_, ?_, ?_⟩ <;> (simp only [updN]; (repeat' split) <;> omega)
    · (simp only [updN] at hi; (repeat' split at hi) <;> (first | omega | skip))
      all_goals (refine ⟨?_, ?_, ?_⟩ <;> (simp only [updN]; (repeat' split) <;> omega))
  · have k := w11 f' hf'
    refine ⟨?_, ?_, fun q => ?_⟩
    · (simp only [updN]; (repeat' split) <;> omega)
    · (simp only [updN]; (repeat' split) <;> omega)
    · (simp only [updN] at q ⊢; (repeat' split at q) <;> (repeat' split) <;> omega)
  · rcases Nat.lt_or_ge r (R 81) with h' | h'
    · have k := w12 r h'
      refine ⟨?_, ?_, ?_, ?_⟩ <;> (simp only [updN]; (repeat' split) <;> omega)
    · (simp only [updN] at hr; (repeat' split at hr) <;> (first | omega | skip))
      all_goals (refine ⟨?_, ?_, ?_, ?_⟩ <;> (simp only [updN]; (repeat' split) <;> omega))
  · rcases Nat.lt_or_ge r (R 102) with h' | h'
    · have k := w13 r h'
      (simp only [updN]; (repeat' split) <;> omega)
    · (simp only [updN] at hr; (repeat' split at hr) <;> (first | omega | skip))
      all_goals (simp only [updN]; (repeat' split) <;> omega)
  · rcases Nat.lt_or_ge r (R 123) with h' | h'
    · have k := w14 r h'
      refine ⟨?_, ?_⟩ <;> (simp only [updN]; (repeat' split) <;> omega)
    · (simp only [updN] at hr; (repeat' split at hr) <;> (first | omega | skip))
      all_goals (refine ⟨?_, ?_⟩ <;> (simp only [updN]; (repeat' split) <;> omega))
theorem WF_master {R : Nat → Nat} {hc : Nat} (hW : WF R hc) {k v : Nat} (hk : k ≤ 6) (hv : v < 10) (hn : R 76 < 6) : WF (updN (fun j => if j = 7 * R 76 then k else if j = 7 * R 76 + 1 then v else if j / 7 = R 76 then 0 else R j) 76 (R 76 + 1)) hc := by
  obtain ⟨w1, w2, w3, w4, w5, w6, w7, w8, w9, w10, w11, w12, w13, w14⟩ := hW
  refine ⟨?_, ?_, ?_, ?_, ?_, ?_, ?_, ?_, fun p' hp' => ?_, fun i hi => ?_, fun f' hf' => ?_, fun r hr => ?_, fun r hr => ?_, fun r hr => ?_⟩
  · (simp only [updN]; (repeat' split) <;> omega)
  · (simp only [updN]; (repeat' split) <;> omega)
  · (simp only [updN]; (repeat' split) <;> omega)
  · (simp only [updN]; (repeat' split) <;> omega)
  · (simp only [updN]; (repeat' split) <;> omega)
  · (simp only [updN]; (repeat' split) <;> omega)
  · (simp only [updN]; (repeat' split) <;> omega)
  · (simp only [updN]; (repeat' split) <;> omega)
  · have k := w9 p' hp'
    refine ⟨?_, ?_, ?_, fun q' hq' => ?_⟩
    · (simp only [updN]; (repeat' split) <;> omega)
    · (simp only [updN]; (repeat' split) <;> omega)
    · (simp only [updN]; (repeat' split) <;> omega)
    · have kq := k.2.2.2 q' hq'
      (simp only [updN]; (repeat' split) <;> omega)
  · rcases Nat.lt_or_ge i (R 77) with h' | h'
    · have k := w10 i h'
      refine ⟨?_, ?_, ?_⟩ <;> (simp only [updN]; (repeat' split) <;> omega)
    · (simp only [updN] at hi; (repeat' split at hi) <;> (first | omega | skip))
      all_goals (refine ⟨?_, ?_, ?_⟩ <;> (simp only [updN]; (repeat' split) <;> omega))
  · have k := w11 f' hf'
    refine ⟨?_, ?_, fun q => ?_⟩
    · (simp only [updN]; (repeat' split) <;> omega)
    · (simp only [updN]; (repeat' split) <;> omega)
    · (simp only [updN] at q ⊢; (repeat' split at q) <;> (repeat' split) <;> omega)
  · rcases Nat.lt_or_ge r (R 81) with h' | h'
    · have k := w12 r h'
      refine ⟨?_, ?_, ?_, ?_⟩ <;> (simp only [updN]; (repeat' split) <;> omega)
    · (simp only [updN] at hr; (repeat' split at hr) <;> (first | omega | skip))
      all_goals (refine ⟨?_, ?_, ?_, ?_⟩ <;> (simp only [updN]; (repeat' split) <;> omega))
  · rcases Nat.lt_or_ge r (R 102) with h' | h'
    · have k := w13 r h'
      (simp only [updN]; (repeat' split) <;> omega)
    · (simp only [updN] at hr; (repeat' split at hr) <;> (first | omega | skip))
      all_goals (simp only [updN]; (repeat' split) <;> omega)
  · rcases Nat.lt_or_ge r (R 123) with h' | h'
    · have k := w14 r h'
      refine ⟨?_, ?_⟩ <;> (simp only [updN]; (repeat' split) <;> omega)
    · (simp only [updN] at hr; (repeat' split at hr) <;> (first | omega | skip))
      all_goals (refine ⟨?_, ?_⟩ <;> (simp only [updN]; (repeat' split) <;> omega))
