theorem rb0 {h : AH} : zret .boolean (0 : Int32) h = some (0, h) := rfl
theorem rb1 {h : AH} : zret .boolean (1 : Int32) h = some (1, h) := rfl
def bI (b : Bool) : Int32 := if b then 1 else 0
theorem rbI {b : Bool} {h : AH} : zret .boolean (bI b) h = some (bI b, h) := by cases b <;> rfl
theorem bI0 (b : Bool) : (bI b = 0) ↔ b = false := by cases b <;> decide
theorem bI1 (b : Bool) : (bI b = 1) ↔ b = true := by cases b <;> decide
theorem s_l : ∀ n, n < 32 → ((nI n &&& 31).toBitVec.smod 32).toNat = n := by decide +kernel
theorem x_and (a b : Nat) : nI a &&& nI b = nI (a &&& b) := by
  apply Int32.toBitVec_inj.1
  show BitVec.ofNat 32 a &&& BitVec.ofNat 32 b = BitVec.ofNat 32 (a &&& b)
  apply BitVec.eq_of_getLsbD_eq
  intro i hi
  simp [hi]
theorem x_or (a b : Nat) : nI a ||| nI b = nI (a ||| b) := by
  apply Int32.toBitVec_inj.1
  show BitVec.ofNat 32 a ||| BitVec.ofNat 32 b = BitVec.ofNat 32 (a ||| b)
  apply BitVec.eq_of_getLsbD_eq
  intro i hi
  simp [hi]
def dif (a b : Nat) : Nat := a ^^^ (a &&& b)
theorem dif_bit (a b i : Nat) : (dif a b).testBit i = (a.testBit i && !b.testBit i) := by
  unfold dif
  rw [Nat.testBit_xor, Nat.testBit_and]
  cases a.testBit i <;> cases b.testBit i <;> rfl
theorem x_dif (a b : Nat) : nI a &&& (nI b ^^^ (-1)) = nI (dif a b) := by
  apply Int32.toBitVec_inj.1
  show BitVec.ofNat 32 a &&& (BitVec.ofNat 32 b ^^^ (-1)) = BitVec.ofNat 32 (dif a b)
  rw [show (-1 : BitVec 32) = BitVec.allOnes 32 by decide]
  apply BitVec.eq_of_getLsbD_eq
  intro i hi
  simp only [BitVec.getLsbD_and, BitVec.getLsbD_xor, BitVec.getLsbD_ofNat, BitVec.getLsbD_allOnes, hi, decide_true, Bool.true_and, dif_bit, Bool.xor_true]
theorem x_sh {f : Nat} (h : f < 31) : (1 : Int32) <<< (nI f &&& 31) = nI (2 ^ f) := by
  have := pk_shlN (n := 1) (nI f &&& 31) f (s_l f (by omega)) (by
    have : 2 ^ f < 2 ^ 31 := Nat.pow_lt_pow_right (by omega) h
    omega)
  rw [Nat.one_mul] at this
  exact this
theorem x_shr {a f : Nat} (ha : a < 2147483648) (h : f < 31) : nI a >>> (nI f &&& 31) = nI (a / 2 ^ f) := pk_shrN (by omega) _ f (s_l f (by omega))
theorem x_bit {a f : Nat} (ha : a < 2147483648) (h : f < 31) : (nI a >>> (nI f &&& 31)) &&& (1 : Int32) = bI (a.testBit f) := by
  rw [x_shr ha h]
  have e : nI (a / 2 ^ f) &&& (1 : Int32) = nI (a / 2 ^ f % 2 ^ 1) := pk_andN (by have := Nat.div_le_self a (2 ^ f); omega) 1 (by decide)
  rw [e, Nat.testBit_eq_decide_div_mod_eq]
  rcases Nat.mod_two_eq_zero_or_one (a / 2 ^ f) with q | q
  · simp [q, bI]; rfl
  · simp [q, bI]; rfl
theorem x_andb {a f : Nat} (h : f < 31) : ((nI a &&& nI (2 ^ f)) = 0) ↔ a.testBit f = false := by
  rw [x_and]
  have : (a &&& 2 ^ f) = if a.testBit f then 2 ^ f else 0 := by
    apply Nat.eq_of_testBit_eq
    intro i
    rw [Nat.testBit_and, Nat.testBit_two_pow]
    by_cases e : f = i
    · subst e
      cases q : a.testBit f <;> simp
    · cases a.testBit f <;> simp [e, Nat.testBit_two_pow]
  rw [this]
  have h2 : 2 ^ f < 2 ^ 31 := Nat.pow_lt_pow_right (by omega) h
  have h3 : 0 < 2 ^ f := Nat.pow_pos (by omega)
  cases a.testBit f
  · simp; rfl
  · simp only [if_true]
    constructor
    · intro e
      exact absurd e (nI_ne0 h3 h2)
    · intro e; cases e
theorem x_add (a b : Nat) : nI a + nI b = nI (a + b) := nI_add a b
theorem x_mul (a b : Nat) : nI a * nI b = nI (a * b) := pk_mul a b
theorem x_sub {a b : Nat} (h : b ≤ a) : nI a - nI b = nI (a - b) := pk_sub h
theorem x_div {a d : Nat} (ha : a < 2147483648) (h0 : 0 < d) (hd : d < 2147483648) : nI a / nI d = nI (a / d) := pk_div (by omega) h0 (by omega)
theorem x_rem {a d : Nat} (ha : a < 2147483648) (h0 : 0 < d) (hd : d < 2147483648) : nI a - nI a / nI d * nI d = nI (a % d) := pk_rem (by omega) h0 (by omega)
/-- a Nat by its bits below n -/
def mkN (b : Nat → Bool) : Nat → Nat
  | 0 => 0
  | n + 1 => mkN b n ||| (if b n then 2 ^ n else 0)
theorem mkN_lt (b : Nat → Bool) (n : Nat) : mkN b n < 2 ^ n := by
  induction n with
  | zero => show (0 : Nat) < 1; omega
  | succ n ih =>
    have h1 : mkN b n < 2 ^ (n + 1) := by rw [Nat.pow_succ]; omega
    have h2 : (if b n then 2 ^ n else 0) < 2 ^ (n + 1) := by
      have : 0 < 2 ^ n := Nat.pow_pos (by omega)
      rw [Nat.pow_succ]
      split <;> omega
    exact Nat.or_lt_two_pow h1 h2
theorem mkN_bit (b : Nat → Bool) (n i : Nat) : (mkN b n).testBit i = (decide (i < n) && b i) := by
  induction n with
  | zero => simp [mkN]
  | succ n ih =>
    rw [mkN, Nat.testBit_or, ih]
    by_cases hb : b n
    · rw [if_pos hb, Nat.testBit_two_pow]
      by_cases h : i = n
      · subst h; simp [hb]
      · have h2 : ¬ n = i := fun q => h q.symm
        by_cases h3 : i < n
        · simp [h3, h2, Nat.lt_succ_of_lt h3]
        · have h4 : ¬ i < n + 1 := by omega
          simp [h3, h2, h4]
    · rw [if_neg hb]
      by_cases h : i = n
      · subst h; simp [hb]
      · by_cases h3 : i < n
        · simp [h3, Nat.lt_succ_of_lt h3]
        · have h4 : ¬ i < n + 1 := by omega
          simp [h3, h4]
theorem bit_lt {a n i : Nat} (h : a < 2 ^ n) (hi : n ≤ i) : a.testBit i = false := Nat.testBit_lt_two_pow (Nat.lt_of_lt_of_le h (Nat.pow_le_pow_right (by omega) hi))
theorem mkN_self {a n : Nat} (h : a < 2 ^ n) : mkN (fun i => a.testBit i) n = a := by
  apply Nat.eq_of_testBit_eq
  intro i
  rw [mkN_bit]
  by_cases hi : i < n
  · simp [hi]
  · simp [hi, bit_lt h (Nat.le_of_not_lt hi)]
theorem mkN_congr {b c : Nat → Bool} {n : Nat} (h : ∀ i, i < n → b i = c i) : mkN b n = mkN c n := by
  induction n with
  | zero => rfl
  | succ n ih => rw [mkN, mkN, ih (fun i hi => h i (by omega)), h n (by omega)]
theorem or_lt8 {a b : Nat} (ha : a < 256) (hb : b < 256) : (a ||| b) < 256 := Nat.or_lt_two_pow (n := 8) ha hb
theorem dif_lt {a b : Nat} (ha : a < 256) : dif a b < 256 := Nat.xor_lt_two_pow (n := 8) ha (Nat.lt_of_le_of_lt Nat.and_le_left ha)
theorem x_sh1 {f : Nat} (h : f < 31) : nI 1 <<< (nI f &&& nI 31) = nI (2 ^ f) := x_sh h
theorem x_bit1 {a f : Nat} (ha : a < 2147483648) (h : f < 31) : (nI a >>> (nI f &&& nI 31)) &&& nI 1 = bI (a.testBit f) := x_bit ha h
theorem x_dif1 (a b : Nat) : nI a &&& (nI b ^^^ (-nI 1)) = nI (dif a b) := x_dif a b
theorem x_andb1 {a f : Nat} (h : f < 31) : ((nI a &&& nI (2 ^ f)) = nI 0) ↔ a.testBit f = false := x_andb h
theorem x_remN (a d : Nat) : a - a / d * d = a % d := by
  have := Nat.div_add_mod a d
  rw [Nat.mul_comm] at this
  omega
