/-! SETS OF ROCKS as bits of numbers -/
theorem nx_and (a b : Nat) : nI a &&& nI b = nI (a &&& b) := by
  apply Int32.toBitVec_inj.1
  show BitVec.ofNat 32 a &&& BitVec.ofNat 32 b = BitVec.ofNat 32 (a &&& b)
  apply BitVec.eq_of_getLsbD_eq
  intro i hi
  simp [hi]
theorem nx_or (a b : Nat) : nI a ||| nI b = nI (a ||| b) := by
  apply Int32.toBitVec_inj.1
  show BitVec.ofNat 32 a ||| BitVec.ofNat 32 b = BitVec.ofNat 32 (a ||| b)
  apply BitVec.eq_of_getLsbD_eq
  intro i hi
  simp [hi]
theorem nx_xor (a b : Nat) : nI a ^^^ nI b = nI (a ^^^ b) := by
  apply Int32.toBitVec_inj.1
  show BitVec.ofNat 32 a ^^^ BitVec.ofNat 32 b = BitVec.ofNat 32 (a ^^^ b)
  apply BitVec.eq_of_getLsbD_eq
  intro i hi
  simp [hi]
theorem bt_nI {n k : Nat} (hk : k < 32) : bt (nI n) k = n.testBit k := by
  show (BitVec.ofNat 32 n).getLsbD k = _
  rw [BitVec.getLsbD_ofNat]; simp [hk]
theorem one_shl : ∀ p, p < 31 → (1 : Int32) <<< (nI p &&& 31) = nI (2 ^ p) := by decide +kernel
theorem pow_lt {p : Nat} (h : p < 9) : 2 ^ p < 512 := Nat.pow_lt_pow_right (by omega) h
/-- a set with a rock, if it is told -/
def ad (T p s : Nat) : Nat := s ||| (T &&& 2 ^ p)
theorem or_lt {a b : Nat} (ha : a < 512) (hb : b < 512) : a ||| b < 512 := Nat.or_lt_two_pow (n := 9) ha hb
theorem and_lt {a b : Nat} (ha : a < 512) : a &&& b < 512 := Nat.lt_of_le_of_lt Nat.and_le_left ha
theorem ad_lt {T p s : Nat} (hT : T < 512) (hs : s < 512) : ad T p s < 512 := or_lt hs (and_lt hT)
theorem nI_ad {T p s : Nat} (hp : p < 31) : nI s ||| (nI T &&& ((1 : Int32) <<< (nI p &&& 31))) = nI (ad T p s) := by
  rw [one_shl p hp, nx_and, nx_or]; rfl
theorem nI_tp {T p : Nat} (hp : p < 31) : nI T &&& ((1 : Int32) <<< (nI p &&& 31)) = nI (T &&& 2 ^ p) := by
  rw [one_shl p hp, nx_and]
theorem and_pow {T p : Nat} : T &&& 2 ^ p = if T.testBit p then 2 ^ p else 0 := by
  apply Nat.eq_of_testBit_eq
  intro i
  rw [Nat.testBit_and, Nat.testBit_two_pow]
  by_cases e : p = i
  · subst e
    cases h : T.testBit p <;> simp [Nat.testBit_two_pow]
  · cases h : T.testBit p <;> simp [e, Nat.testBit_two_pow]
theorem ad_t {T p s : Nat} (h : T.testBit p = true) : ad T p s = s ||| 2 ^ p := by unfold ad; rw [and_pow, h]; rfl
theorem ad_f {T p s : Nat} (h : T.testBit p = false) : ad T p s = s := by unfold ad; rw [and_pow, h]; simp
/-- words of 64 sets -/
theorem or_lo : ∀ p, p < 6 → ∀ i, i < 8 → ∀ j, j < 64 → (64 * i + j) ||| 2 ^ p = 64 * i + (j ||| 2 ^ p) := by decide +kernel
theorem or_hi : ∀ p, p < 3 → ∀ i, i < 8 → ∀ j, j < 64 → (64 * i + j) ||| 2 ^ (p + 6) = 64 * (i ||| 2 ^ p) + j := by decide +kernel
theorem or_in : ∀ p, p < 6 → ∀ j, j < 64 → j ||| 2 ^ p < 64 := by decide +kernel
theorem or_in8 : ∀ p, p < 3 → ∀ j, j < 8 → j ||| 2 ^ p < 8 := by decide +kernel
theorem xor_in8 : ∀ p, p < 3 → ∀ j, j < 8 → j ^^^ 2 ^ p < 8 := by decide +kernel
theorem or_cr : ∀ p, p < 6 → ∀ j, j < 64 → ∀ u, u < 64 → (j = u ||| 2 ^ p ↔ (u = j ∧ j.testBit p = true) ∨ (2 ^ p ≤ j ∧ u = j - 2 ^ p ∧ (j - 2 ^ p).testBit p = false)) := by decide +kernel
theorem or_ft : ∀ p, p < 6 → ∀ j, j < 64 → (j.testBit p = true → j ||| 2 ^ p = j ∧ (j + 2 ^ p < 64 → (j + 2 ^ p).testBit p = false)) ∧ (j.testBit p = false → j ||| 2 ^ p = j + 2 ^ p ∧ j + 2 ^ p < 64 ∧ (j + 2 ^ p).testBit p = true) := by decide +kernel
theorem xr_ft : ∀ p, p < 3 → ∀ i, i < 8 → ∀ w, w < 8 → (w ||| 2 ^ p = i ↔ i.testBit p = true ∧ (w = i ∨ w = i ^^^ 2 ^ p)) := by decide +kernel
theorem tw_bit : ∀ p, p < 6 → ∀ j, j < 64 → bj (jTW p) j = !j.testBit p := by decide +kernel
theorem pow64 : ∀ p, p < 6 → 2 ^ p < 64 := by decide
theorem s_u64 : ∀ n, n < 64 → (((nI n).toInt64.toUInt64 &&& Int64.toUInt64 63).toBitVec % 64).toNat = n := by decide +kernel
theorem jlu_bit {x : Int64} {k i : Nat} (hk : k < 64) : bj (jlushr x (nI k)) i = bj x (k + i) := by
  show (x.toUInt64 >>> ((nI k).toInt64.toUInt64 &&& Int64.toUInt64 63)).toBitVec.getLsbD i = x.toUInt64.toBitVec.getLsbD (k + i)
  rw [UInt64.toBitVec_shiftRight]
  show (x.toUInt64.toBitVec >>> (((nI k).toInt64.toUInt64 &&& Int64.toUInt64 63).toBitVec % 64).toNat).getLsbD i = _
  rw [s_u64 k hk, BitVec.getLsbD_ushiftRight]
theorem st_hi : ∀ s, s < 512 → (nI s >>> ((6 : Int32) &&& 31)) &&& 7 = nI (s / 64) := by decide +kernel
theorem st_lo : ∀ s, s < 512 → nI s &&& 63 = nI (s % 64) := by decide +kernel
theorem li_72 : (72 : Int32) = nI 72 := rfl
theorem wd_eq {n r s : Nat} (hs : s < 512) : nI n * 72 + nI r * 8 + ((nI s >>> ((6 : Int32) &&& 31)) &&& 7) = nI (n * 72 + r * 8 + s / 64) := by
  rw [st_hi s hs, li_72, li_8, nI_mul, nI_mul, nI_add, nI_add]
