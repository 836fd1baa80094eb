/-! HOW MANY BITS -/
def c8 (a : Nat) : Nat := a % 2 + a / 2 % 2 + a / 4 % 2 + a / 8 % 2 + a / 16 % 2 + a / 32 % 2 + a / 64 % 2 + a / 128 % 2
def m5 : Nat → Nat
  | 0 => 0
  | k + 1 => 85 + 256 * m5 k
def m3 : Nat → Nat
  | 0 => 0
  | k + 1 => 51 + 256 * m3 k
def mf : Nat → Nat
  | 0 => 0
  | k + 1 => 15 + 256 * mf k
theorem land8 {a b c d : Nat} (ha : a < 256) (hc : c < 256) : (a + 256 * b) &&& (c + 256 * d) = (a &&& c) + 256 * (b &&& d) := by
  have h1 : ((a + 256 * b) &&& (c + 256 * d)) % 2 ^ 8 = a &&& c := by
    rw [Nat.and_mod_two_pow, show (a + 256 * b) % 2 ^ 8 = a by omega, show (c + 256 * d) % 2 ^ 8 = c by omega]
  have h2 : ((a + 256 * b) &&& (c + 256 * d)) / 2 ^ 8 = b &&& d := by
    rw [← Nat.shiftRight_eq_div_pow, Nat.shiftRight_and_distrib, Nat.shiftRight_eq_div_pow, Nat.shiftRight_eq_div_pow, show (a + 256 * b) / 2 ^ 8 = b by omega, show (c + 256 * d) / 2 ^ 8 = d by omega]
  omega
def t1 (k x : Nat) : Nat := x - ((x / 2) &&& m5 k)
def t2 (k x : Nat) : Nat := (x &&& m3 k) + ((x / 4) &&& m3 k)
def t3 (k x : Nat) : Nat := (x + x / 16) &&& mf k
theorem d1 : ∀ a, a < 256 → ∀ e, e < 2 → (a / 2 + 128 * e) &&& 85 = (a / 2) &&& 85 := by decide +kernel
theorem d2 : ∀ a, a < 256 → ∀ e, e < 4 → (a / 4 + 64 * e) &&& 51 = (a / 4) &&& 51 := by decide +kernel
theorem d3 : ∀ a, a < 103 → ∀ e, e < 7 → (a + a / 16 + 16 * e) &&& 15 = (a + a / 16) &&& 15 := by decide +kernel
theorem d4 : ∀ a, a < 256 → t1 1 a < 256 ∧ t2 1 (t1 1 a) < 103 ∧ t3 1 (t2 1 (t1 1 a)) = c8 a := by decide +kernel
theorem m5_1 : m5 1 = 85 := rfl
theorem t1_s {k a b : Nat} (ha : a < 256) : t1 (k + 1) (a + 256 * b) = t1 1 a + 256 * t1 k b := by
  unfold t1
  rw [show (a + 256 * b) / 2 = (a / 2 + 128 * (b % 2)) + 256 * (b / 2) by omega, m5, land8 (by omega) (by omega), d1 a ha _ (by omega), m5_1]
  have h1 : (a / 2) &&& 85 ≤ a / 2 := Nat.and_le_left
  have h2 : (b / 2) &&& m5 k ≤ b / 2 := Nat.and_le_left
  generalize (a / 2) &&& 85 = u at h1 ⊢
  generalize (b / 2) &&& m5 k = v at h2 ⊢
  omega
theorem t2_s {k a b : Nat} (ha : a < 256) : t2 (k + 1) (a + 256 * b) = t2 1 a + 256 * t2 k b := by
  unfold t2
  rw [show (a + 256 * b) / 4 = (a / 4 + 64 * (b % 4)) + 256 * (b / 4) by omega, m3, land8 (by omega) (by omega), land8 (by omega) (by omega), d2 a ha _ (by omega), show m3 1 = 51 from rfl]
  omega
theorem t2_16 (k x : Nat) : t2 k x % 16 < 7 := by
  unfold t2
  cases k with
  | zero => rw [m3, Nat.and_zero, Nat.and_zero]; decide
  | succ k =>
    have h : ∀ y, (y &&& m3 (k + 1)) % 2 ^ 4 ≤ 3 := fun y => by
      rw [Nat.and_mod_two_pow, m3, show (51 + 256 * m3 k) % 2 ^ 4 = 3 by omega]
      exact Nat.and_le_right
    have h1 := h x
    have h2 := h (x / 4)
    omega
theorem t3_s {k a b : Nat} (ha : a < 103) (hb : b % 16 < 7) : t3 (k + 1) (a + 256 * b) = t3 1 a + 256 * t3 k b := by
  unfold t3
  rw [show a + 256 * b + (a + 256 * b) / 16 = (a + a / 16 + 16 * (b % 16)) + 256 * (b + b / 16) by omega, mf, land8 (by omega) (by omega), d3 a ha _ hb, show mf 1 = 15 from rfl]
def pv : Nat → Nat → Nat
  | 0, _ => 0
  | k + 1, x => c8 (x % 256) + 256 * pv k (x / 256)
def pw : Nat → Nat → Nat
  | 0, _ => 0
  | k + 1, x => c8 (x % 256) + pw k (x / 256)
theorem pv_of : ∀ k x, t3 k (t2 k (t1 k x)) = pv k x
  | 0, x => by unfold t3 mf pv; exact Nat.and_zero _
  | k + 1, x => by
    have ha : x % 256 < 256 := Nat.mod_lt _ (by decide)
    have h := d4 (x % 256) ha
    rw [pv, ← pv_of k (x / 256)]
    have e : x = x % 256 + 256 * (x / 256) := by omega
    rw [show t1 (k + 1) x = t1 (k + 1) (x % 256 + 256 * (x / 256)) by rw [← e], t1_s ha, t2_s h.1, t3_s h.2.1 (t2_16 _ _), h.2.2]
/-- the lowest k bits, as a number of them -/
def bs : Nat → Nat → Nat
  | 0, _ => 0
  | k + 1, x => x % 2 + bs k (x / 2)
theorem bs_s : ∀ k x, bs (k + 1) x = bs k x + x / 2 ^ k % 2
  | 0, x => by simp [bs]
  | k + 1, x => by
    rw [bs, bs_s k (x / 2), bs, Nat.div_div_eq_div_mul, Nat.pow_succ, Nat.mul_comm 2]
    omega
theorem bs_8 (k x : Nat) : bs (k + 8) x = c8 (x % 256) + bs k (x / 256) := by
  rw [show k + 8 = k + 1 + 1 + 1 + 1 + 1 + 1 + 1 + 1 from rfl, bs, bs, bs, bs, bs, bs, bs, bs, c8]
  simp only [Nat.div_div_eq_div_mul, Nat.reduceMul]
  omega
theorem bs_pw : ∀ k x, bs (8 * k) x = pw k x
  | 0, x => rfl
  | k + 1, x => by rw [Nat.mul_succ, bs_8, bs_pw k, pw]
theorem bs_le : ∀ k x, bs k x ≤ k
  | 0, _ => Nat.le_refl _
  | k + 1, x => by have := bs_le k (x / 2); rw [bs]; omega
theorem c8_le (a : Nat) : c8 a ≤ 8 := by unfold c8; omega
theorem pv_pw (x : Nat) : pv 8 x < 2 ^ 60 ∧ pv 8 x + pv 8 x / 2 ^ 8 < 2 ^ 61 ∧ pv 8 x + pv 8 x / 2 ^ 8 + (pv 8 x + pv 8 x / 2 ^ 8) / 2 ^ 16 < 2 ^ 62 ∧ (pv 8 x + pv 8 x / 2 ^ 8 + (pv 8 x + pv 8 x / 2 ^ 8) / 2 ^ 16 + (pv 8 x + pv 8 x / 2 ^ 8 + (pv 8 x + pv 8 x / 2 ^ 8) / 2 ^ 16) / 2 ^ 32) % 128 = pw 8 x := by
  simp only [pv, pw]
  have h0 := c8_le (x % 256)
  have h1 := c8_le (x / 256 % 256)
  have h2 := c8_le (x / 256 / 256 % 256)
  have h3 := c8_le (x / 256 / 256 / 256 % 256)
  have h4 := c8_le (x / 256 / 256 / 256 / 256 % 256)
  have h5 := c8_le (x / 256 / 256 / 256 / 256 / 256 % 256)
  have h6 := c8_le (x / 256 / 256 / 256 / 256 / 256 / 256 % 256)
  have h7 := c8_le (x / 256 / 256 / 256 / 256 / 256 / 256 / 256 % 256)
  generalize c8 (x % 256) = y0 at *
  generalize c8 (x / 256 % 256) = y1 at *
  generalize c8 (x / 256 / 256 % 256) = y2 at *
  generalize c8 (x / 256 / 256 / 256 % 256) = y3 at *
  generalize c8 (x / 256 / 256 / 256 / 256 % 256) = y4 at *
  generalize c8 (x / 256 / 256 / 256 / 256 / 256 % 256) = y5 at *
  generalize c8 (x / 256 / 256 / 256 / 256 / 256 / 256 % 256) = y6 at *
  generalize c8 (x / 256 / 256 / 256 / 256 / 256 / 256 / 256 % 256) = y7 at *
  have dv : ∀ a q, a < 256 → (a + 256 * q) / 2 ^ 8 = q := fun a q h => by omega
  have dw : ∀ a q, a < 65536 → (a + 65536 * q) / 2 ^ 16 = q := fun a q h => by omega
  have du : ∀ a q, a < 4294967296 → (a + 4294967296 * q) / 2 ^ 32 = q := fun a q h => by omega
  rw [dv _ _ (by omega)]
  have e1 : y0 + 256 * (y1 + 256 * (y2 + 256 * (y3 + 256 * (y4 + 256 * (y5 + 256 * (y6 + 256 * (y7 + 256 * 0))))))) + (y1 + 256 * (y2 + 256 * (y3 + 256 * (y4 + 256 * (y5 + 256 * (y6 + 256 * (y7 + 256 * 0))))))) = ((y0 + y1) + 256 * (y1 + y2)) + 65536 * ((y2 + y3) + 256 * (y3 + y4) + 65536 * (y4 + y5) + 16777216 * (y5 + y6) + 4294967296 * (y6 + y7) + 1099511627776 * y7) := by omega
  rw [e1, dw _ _ (by omega)]
  have e2 : ((y0 + y1) + 256 * (y1 + y2)) + 65536 * ((y2 + y3) + 256 * (y3 + y4) + 65536 * (y4 + y5) + 16777216 * (y5 + y6) + 4294967296 * (y6 + y7) + 1099511627776 * y7) + ((y2 + y3) + 256 * (y3 + y4) + 65536 * (y4 + y5) + 16777216 * (y5 + y6) + 4294967296 * (y6 + y7) + 1099511627776 * y7) = ((y0 + y1 + y2 + y3) + 256 * (y1 + y2 + y3 + y4) + 65536 * (y2 + y3 + y4 + y5) + 16777216 * (y3 + y4 + y5 + y6)) + 4294967296 * ((y4 + y5 + y6 + y7) + 256 * (y5 + y6 + y7) + 65536 * (y6 + y7) + 16777216 * y7) := by omega
  rw [e2, du _ _ (by omega)]
  have e3 : ((y0 + y1 + y2 + y3) + 256 * (y1 + y2 + y3 + y4) + 65536 * (y2 + y3 + y4 + y5) + 16777216 * (y3 + y4 + y5 + y6)) + 4294967296 * ((y4 + y5 + y6 + y7) + 256 * (y5 + y6 + y7) + 65536 * (y6 + y7) + 16777216 * y7) + ((y4 + y5 + y6 + y7) + 256 * (y5 + y6 + y7) + 65536 * (y6 + y7) + 16777216 * y7) = (y0 + (y1 + (y2 + (y3 + (y4 + (y5 + (y6 + (y7 + 0)))))))) + 128 * (2 * (y1 + y2 + y3 + y4) + 512 * (y2 + y3 + y4 + y5) + 131072 * (y3 + y4 + y5 + y6) + 33554432 * ((y4 + y5 + y6 + y7) + 256 * (y5 + y6 + y7) + 65536 * (y6 + y7) + 16777216 * y7) + (2 * (y5 + y6 + y7) + 512 * (y6 + y7) + 131072 * y7)) := by omega
  rw [e3, Nat.add_mul_mod_self_left, Nat.mod_eq_of_lt (by omega)]
  exact ⟨by omega, by omega, by omega, rfl⟩
/-! of Java's longs -/
def uN (x : Int64) : Nat := x.toBitVec.toNat
theorem uN_lt (x : Int64) : uN x < 2 ^ 64 := x.toBitVec.isLt
theorem uN_and (x y : Int64) : uN (x &&& y) = uN x &&& uN y := by unfold uN; rw [Int64.toBitVec_and, BitVec.toNat_and]
theorem uN_add {x y : Int64} (h : uN x + uN y < 2 ^ 64) : uN (x + y) = uN x + uN y := by
  unfold uN at *; rw [Int64.toBitVec_add, BitVec.toNat_add, Nat.mod_eq_of_lt h]
theorem uN_sub {x y : Int64} (h : uN y ≤ uN x) : uN (x - y) = uN x - uN y := by
  unfold uN at *; rw [Int64.toBitVec_sub]; exact BitVec.toNat_sub_of_le h
theorem uN_shr (x : Int64) (n : Nat) (hn : n < 64) : uN (jlushr x (nI n)) = uN x / 2 ^ n := by
  unfold uN jlushr
  show (x.toUInt64 >>> ((nI n).toInt64.toUInt64 &&& Int64.toUInt64 63)).toBitVec.toNat = _
  rw [UInt64.toBitVec_shiftRight]
  have e : (((nI n).toInt64.toUInt64 &&& Int64.toUInt64 63).toBitVec % 64).toNat = n := by
    revert hn; revert n; decide +kernel
  rw [BitVec.ushiftRight_eq', BitVec.toNat_ushiftRight, e, Nat.shiftRight_eq_div_pow]; rfl
theorem uN_bj (x : Int64) (i : Nat) : bj x i = decide (uN x / 2 ^ i % 2 = 1) := by
  unfold bj uN
  rw [BitVec.getLsbD, Nat.testBit_eq_decide_div_mod_eq]
theorem uN_end (x : Int64) : x.toInt32 &&& 127 = nI (uN x % 128) := by
  apply Int32.toBitVec_inj.mp
  apply BitVec.eq_of_toNat_eq
  rw [Int32.toBitVec_and, BitVec.toNat_and]
  show (x.toInt32.toBitVec.toNat &&& 127) = (Int32.ofNat (uN x % 128)).toBitVec.toNat
  rw [Int64.toBitVec_toInt32, BitVec.signExtend_eq_setWidth_of_le _ (by omega), BitVec.toNat_setWidth, Int32.toBitVec_ofNat', BitVec.toNat_ofNat, show (127 : Nat) = 2 ^ 7 - 1 from rfl, Nat.and_two_pow_sub_one_eq_mod]
  unfold uN
  omega
theorem sJ13_bitCount {S : JS} {Q : Int32 → JS → Prop} {x : Int64} (h : Q (nI (bs 64 (uN x))) S) : wJ13_bitCount_95d88 x S Q := by
  unfold wJ13_bitCount_95d88
  intro x1 e1 x2 e2 x3 e3 x4 e4 x5 e5 x6 e6
  have a5 : uN 6148914691236517205 = m5 8 := by decide +kernel
  have a3 : uN 3689348814741910323 = m3 8 := by decide +kernel
  have af : uN 1085102592571150095 = mf 8 := by decide +kernel
  have s1 : ∀ y, uN (jlushr y 1) = uN y / 2 := fun y => uN_shr y 1 (by omega)
  have s2 : ∀ y, uN (jlushr y 2) = uN y / 4 := fun y => uN_shr y 2 (by omega)
  have s4 : ∀ y, uN (jlushr y 4) = uN y / 16 := fun y => uN_shr y 4 (by omega)
  have s8 : ∀ y, uN (jlushr y 8) = uN y / 2 ^ 8 := fun y => uN_shr y 8 (by omega)
  have s16 : ∀ y, uN (jlushr y 16) = uN y / 2 ^ 16 := fun y => uN_shr y 16 (by omega)
  have s32 : ∀ y, uN (jlushr y 32) = uN y / 2 ^ 32 := fun y => uN_shr y 32 (by omega)
  have x0 := uN_lt x
  have n1 : uN x1 = t1 8 (uN x) := by
    have e : uN (jlushr x 1 &&& 6148914691236517205) = (uN x / 2) &&& m5 8 := by rw [uN_and, s1, a5]
    have le : (uN x / 2) &&& m5 8 ≤ uN x / 2 := Nat.and_le_left
    rw [e1, uN_sub (by rw [e]; omega), e]; rfl
  have b3 : m3 8 = 3689348814741910323 := by decide +kernel
  have bf : mf 8 = 1085102592571150095 := by decide +kernel
  have n2 : uN x2 = t2 8 (t1 8 (uN x)) := by
    have le1 : uN x1 &&& m3 8 ≤ m3 8 := Nat.and_le_right
    have le2 : (uN x1 / 4) &&& m3 8 ≤ m3 8 := Nat.and_le_right
    rw [e2, uN_add, uN_and, uN_and, s2, a3, n1]
    · rfl
    · rw [uN_and, uN_and, s2, a3]; omega
  have n3 : uN x3 = pv 8 (uN x) := by
    have le1 : uN x1 &&& m3 8 ≤ m3 8 := Nat.and_le_right
    have le2 : (uN x1 / 4) &&& m3 8 ≤ m3 8 := Nat.and_le_right
    have lt : uN x2 < 2 ^ 63 := by rw [n2, ← n1]; unfold t2; omega
    rw [← pv_of, e3, uN_and, af, uN_add (by rw [s4]; omega), s4, n2]; rfl
  obtain ⟨p1, p2, p3, p4⟩ := pv_pw (uN x)
  have n4 : uN x4 = pv 8 (uN x) + pv 8 (uN x) / 2 ^ 8 := by
    rw [e4, uN_add (by rw [s8, n3]; omega), s8, n3]
  have n5 : uN x5 = pv 8 (uN x) + pv 8 (uN x) / 2 ^ 8 + (pv 8 (uN x) + pv 8 (uN x) / 2 ^ 8) / 2 ^ 16 := by
    rw [e5, uN_add (by rw [s16, n4]; omega), s16, n4]
  have n6 : uN x6 % 128 = bs 64 (uN x) := by
    rw [e6, uN_add (by rw [s32, n5]; omega), s32, n5, p4, show 64 = 8 * 8 from rfl, bs_pw]
  rw [uN_end, n6]
  exact h
