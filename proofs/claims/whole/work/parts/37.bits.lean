/-! BITS: the first family is kit/laws/BITS.to-paste's -/
def bt (x : Int32) (i : Nat) : Bool := x.toBitVec.getLsbD i
theorem b_ext {x y : Int32} (h : ∀ i, i < 32 → bt x i = bt y i) : x = y := Int32.toBitVec_inj.mp (BitVec.eq_of_getLsbD_eq (fun i hi => h i hi))
theorem b_or (x y : Int32) (i : Nat) : bt (x ||| y) i = (bt x i || bt y i) := by unfold bt; rw [Int32.toBitVec_or, BitVec.getLsbD_or]
theorem b_and (x y : Int32) (i : Nat) : bt (x &&& y) i = (bt x i && bt y i) := by unfold bt; rw [Int32.toBitVec_and, BitVec.getLsbD_and]
theorem b_xor (x y : Int32) (i : Nat) : bt (x ^^^ y) i = (bt x i ^^ bt y i) := by unfold bt; rw [Int32.toBitVec_xor, BitVec.getLsbD_xor]
theorem b_big {x : Int32} {i : Nat} (h : 32 ≤ i) : bt x i = false := BitVec.getLsbD_of_ge _ _ h
theorem b_255 (i : Nat) : bt 255 i = decide (i < 8) := by
  rcases Nat.lt_or_ge i 32 with h | h
  · exact (by decide +kernel : ∀ i, i < 32 → bt 255 i = decide (i < 8)) i h
  · rw [b_big h, decide_eq_false (by omega)]
theorem b_m1 : ∀ i, i < 32 → bt (-1) i = true := by decide +kernel
theorem b_0 (i : Nat) : bt 0 i = false := BitVec.getLsbD_zero
theorem s_l : ∀ n, n < 32 → ((nI n &&& 31).toBitVec.smod 32).toNat = n := by decide +kernel
theorem s_u : ∀ n, n < 32 → (((nI n).toUInt32 &&& Int32.toUInt32 31).toBitVec % 32).toNat = n := by decide +kernel
theorem b_shl (n : Nat) (hn : n < 32) (x : Int32) {i : Nat} (hi : i < 32) : bt (x <<< (nI n &&& 31)) i = (decide (n ≤ i) && bt x (i - n)) := by
  unfold bt
  rw [Int32.toBitVec_shiftLeft]
  show (x.toBitVec <<< ((nI n &&& 31).toBitVec.smod 32).toNat).getLsbD i = _
  rw [s_l n hn, BitVec.getLsbD_shiftLeft]
  rcases Nat.lt_or_ge i n with h | h
  · simp [h, Nat.not_le.mpr h]
  · simp [hi, h, Nat.not_lt.mpr h]
theorem b_ushr (n : Nat) (hn : n < 32) (x : Int32) (i : Nat) : bt ((x.toUInt32 >>> ((nI n).toUInt32 &&& Int32.toUInt32 31)).toInt32) i = bt x (n + i) := by
  show (x.toUInt32 >>> ((nI n).toUInt32 &&& Int32.toUInt32 31)).toBitVec.getLsbD i = x.toUInt32.toBitVec.getLsbD (n + i)
  rw [UInt32.toBitVec_shiftRight]
  show (x.toUInt32.toBitVec >>> (((nI n).toUInt32 &&& Int32.toUInt32 31).toBitVec % 32).toNat).getLsbD i = _
  rw [s_u n hn, BitVec.getLsbD_ushiftRight]
theorem b_sshr (n : Nat) (hn : n < 32) (x : Int32) {i : Nat} (hi : i < 32) : bt (x >>> (nI n &&& 31)) i = if n + i < 32 then bt x (n + i) else bt x 31 := by
  unfold bt
  rw [Int32.toBitVec_shiftRight]
  show (x.toBitVec.sshiftRight ((nI n &&& 31).toBitVec.smod 32).toNat).getLsbD i = _
  rw [s_l n hn, BitVec.getLsbD_sshiftRight, BitVec.msb_eq_getLsbD_last]
  simp [hi]
theorem b_1 (i : Nat) : bt 1 i = decide (i = 0) := by
  rcases Nat.lt_or_ge i 32 with h | h
  · exact (by decide +kernel : ∀ i, i < 32 → bt 1 i = decide (i = 0)) i h
  · rw [b_big h, decide_eq_false (by omega)]
theorem b_one {k i : Nat} (hk : k < 32) (hi : i < 32) : bt ((1 : Int32) <<< (nI k &&& 31)) i = decide (i = k) := by
  rw [b_shl k hk 1 hi, b_1, ← Bool.decide_and, decide_eq_decide]; omega
theorem b_and1 (y : Int32) : y &&& 1 = if bt y 0 then 1 else 0 := by
  apply b_ext
  intro i hi
  rw [b_and, b_1]
  by_cases h : bt y 0 = true
  · rw [if_pos h, b_1]
    by_cases e : i = 0
    · subst e; simp [h]
    · simp [e]
  · rw [if_neg h, b_0]
    by_cases e : i = 0
    · subst e; simp [h]
    · simp [e]
/-- the test of a bit, as both write it -/
theorem hb_iff {x : Int32} {k : Nat} (hk : k < 32) : ((x >>> (nI k &&& 31)) &&& 1) = 1 ↔ bt x k = true := by
  have e : bt (x >>> (nI k &&& 31)) 0 = bt x k := by rw [b_sshr k hk x (by omega), if_pos (by omega)]; rfl
  rw [b_and1, e]
  cases bt x k <;> decide
theorem hb_eq {x : Int32} {k : Nat} (hk : k < 32) : ((x >>> (nI k &&& 31)) &&& 1) = if bt x k then 1 else 0 := by
  have e : bt (x >>> (nI k &&& 31)) 0 = bt x k := by rw [b_sshr k hk x (by omega), if_pos (by omega)]; rfl
  rw [b_and1, e]
theorem b_set {x : Int32} {k i : Nat} (hk : k < 32) (hi : i < 32) : bt (x ||| ((1 : Int32) <<< (nI k &&& 31))) i = (bt x i || decide (i = k)) := by
  rw [b_or, b_one hk hi]
theorem b_bits {P : Nat → Prop} {x y : Int32} (hx : ∀ i, i < 32 → (bt x i = true ↔ P i)) (hy : ∀ i, i < 32 → (bt y i = true ↔ P i)) : x = y := by
  apply b_ext
  intro i hi
  have := (hx i hi).trans (hy i hi).symm
  cases h1 : bt x i <;> cases h2 : bt y i <;> simp_all
theorem b_nm1 {x : Int32} {k : Nat} (hk : k < 32) (h : bt x k = false) : ¬ x = -1 := by
  intro e; rw [e, b_m1 k hk] at h; cases h
/-- longs by their bits -/
def bj (x : Int64) (i : Nat) : Bool := x.toBitVec.getLsbD i
theorem j_ext {x y : Int64} (h : ∀ i, i < 64 → bj x i = bj y i) : x = y := Int64.toBitVec_inj.mp (BitVec.eq_of_getLsbD_eq (fun i hi => h i hi))
theorem j_or (x y : Int64) (i : Nat) : bj (x ||| y) i = (bj x i || bj y i) := by unfold bj; rw [Int64.toBitVec_or, BitVec.getLsbD_or]
theorem j_and (x y : Int64) (i : Nat) : bj (x &&& y) i = (bj x i && bj y i) := by unfold bj; rw [Int64.toBitVec_and, BitVec.getLsbD_and]
theorem j_xor (x y : Int64) (i : Nat) : bj (x ^^^ y) i = (bj x i ^^ bj y i) := by unfold bj; rw [Int64.toBitVec_xor, BitVec.getLsbD_xor]
theorem j_big {x : Int64} {i : Nat} (h : 64 ≤ i) : bj x i = false := BitVec.getLsbD_of_ge _ _ h
theorem j_m1 : ∀ i, i < 64 → bj (-1) i = true := by decide +kernel
theorem j_0 (i : Nat) : bj 0 i = false := BitVec.getLsbD_zero
theorem j_1 (i : Nat) : bj 1 i = decide (i = 0) := by
  rcases Nat.lt_or_ge i 64 with h | h
  · exact (by decide +kernel : ∀ i, i < 64 → bj 1 i = decide (i = 0)) i h
  · rw [j_big h, decide_eq_false (by omega)]
theorem js_l : ∀ n, n < 64 → (((nI n).toInt64 &&& 63).toBitVec.smod 64).toNat = n := by decide +kernel
theorem j_shl (n : Nat) (hn : n < 64) (x : Int64) {i : Nat} (hi : i < 64) : bj (x <<< ((nI n).toInt64 &&& 63)) i = (decide (n ≤ i) && bj x (i - n)) := by
  unfold bj
  rw [Int64.toBitVec_shiftLeft]
  show (x.toBitVec <<< (((nI n).toInt64 &&& 63).toBitVec.smod 64).toNat).getLsbD i = _
  rw [js_l n hn, BitVec.getLsbD_shiftLeft]
  rcases Nat.lt_or_ge i n with h | h
  · simp [h, Nat.not_le.mpr h]
  · simp [hi, h, Nat.not_lt.mpr h]
theorem j_sshr (n : Nat) (hn : n < 64) (x : Int64) {i : Nat} (hi : i < 64) : bj (x >>> ((nI n).toInt64 &&& 63)) i = if n + i < 64 then bj x (n + i) else bj x 63 := by
  unfold bj
  rw [Int64.toBitVec_shiftRight]
  show (x.toBitVec.sshiftRight (((nI n).toInt64 &&& 63).toBitVec.smod 64).toNat).getLsbD i = _
  rw [js_l n hn, BitVec.getLsbD_sshiftRight, BitVec.msb_eq_getLsbD_last]
  simp [hi]
theorem j_and1 (y : Int64) : y &&& 1 = if bj y 0 then 1 else 0 := by
  apply j_ext
  intro i hi
  rw [j_and, j_1]
  by_cases h : bj y 0 = true
  · rw [if_pos h, j_1]
    by_cases e : i = 0
    · subst e; simp [h]
    · simp [e]
  · rw [if_neg h, j_0]
    by_cases e : i = 0
    · subst e; simp [h]
    · simp [e]
/-- a night's bit of the storms -/
def cSt (x : Int64) (n : Nat) : Int32 := ((x >>> ((nI n).toInt64 &&& 63)) &&& 1).toInt32
theorem cSt_eq {x : Int64} {n : Nat} (hn : n < 64) : cSt x n = if bj x n then 1 else 0 := by
  unfold cSt
  have e : bj (x >>> ((nI n).toInt64 &&& 63)) 0 = bj x n := by rw [j_sshr n hn x (by omega), if_pos (by omega)]; rfl
  rw [j_and1, e]
  cases bj x n <;> rfl
