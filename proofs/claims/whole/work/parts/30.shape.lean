/-! PURE GROUND: Int32 and array words -/
theorem jLoop.roll {σ : Type} {F : (σ → Prop) → σ → Prop} {s : σ} (h : F (jLoop F) s) : jLoop F s := fun P hP => hP s _ h (fun _ h' => h' P hP)
theorem tn_eq {x : Int32} (h : 0 ≤ x) : (x.toNatClampNeg : Int) = x.toInt := by
  have h1 : (0 : Int32).toInt ≤ x.toInt := Int32.le_iff_toInt_le.mp h
  have h2 : (0 : Int32).toInt = 0 := rfl
  rw [Int32.toNatClampNeg]; omega
theorem tn_neg {x : Int32} (h : ¬ 0 ≤ x) : x.toNatClampNeg = 0 := by
  have h1 : ¬ (0 : Int32).toInt ≤ x.toInt := fun q => h (Int32.le_iff_toInt_le.mpr q)
  have h2 : (0 : Int32).toInt = 0 := rfl
  rw [Int32.toNatClampNeg]; omega
theorem vpin_of {x y : Int32} {n : Nat} (hy : y.toNatClampNeg = n) (h0 : 0 ≤ y) : vp_in x n ↔ 0 ≤ x ∧ x < y := by
  have e1 := tn_eq h0
  unfold vp_in
  constructor
  · intro h
    have h1 : 0 ≤ x := by
      have : ¬ x < 0 := fun q => h (Or.inl q)
      lia
    refine ⟨h1, ?_⟩
    have e2 := tn_eq h1
    have : ¬ n ≤ x.toNatClampNeg := fun q => h (Or.inr q)
    exact Int32.lt_iff_toInt_lt.mpr (by omega)
  · rintro ⟨h1, h2⟩ (h3 | h3)
    · lia
    · have e2 := tn_eq h1
      have := Int32.lt_iff_toInt_lt.mp h2
      omega
theorem tn_lt {x y : Int32} (hx : 0 ≤ x) (hy : 0 ≤ y) : x.toNatClampNeg < y.toNatClampNeg ↔ x < y := by
  have := tn_eq hx; have := tn_eq hy
  rw [Int32.lt_iff_toInt_lt]; omega
theorem tn_inj {x y : Int32} (hx : 0 ≤ x) (hy : 0 ≤ y) : x.toNatClampNeg = y.toNatClampNeg ↔ x = y := by
  have := tn_eq hx; have := tn_eq hy
  constructor
  · intro h; exact Int32.toInt_inj.mp (by omega)
  · rintro rfl; rfl
theorem tn_ofNat {n : Nat} (h : n < 2147483648) : (Int32.ofNat n).toNatClampNeg = n := by
  have : (Int32.ofNat n).toInt = n := Int32.toInt_ofNat_of_lt (by omega)
  rw [Int32.toNatClampNeg, this]; rfl
theorem ofNat_tn {x : Int32} (h : 0 ≤ x) : Int32.ofNat x.toNatClampNeg = x := by
  have e := tn_eq h
  have : x.toInt < 2147483648 := by have := Int32.toInt_lt x; omega
  exact Int32.toInt_inj.mp (by rw [Int32.toInt_ofNat_of_lt (by omega)]; exact e)
/-- a test as an int -/
def bI (c : Prop) [Decidable c] : Int32 := if c then 1 else 0
theorem bI_eq0 {c : Prop} [Decidable c] : bI c = 0 ↔ ¬ c := by unfold bI; split <;> simp_all <;> decide
theorem bI_eq1 {c : Prop} [Decidable c] : bI c = 1 ↔ c := by unfold bI; split <;> simp_all <;> decide
theorem bI_T {c : Prop} [Decidable c] (h : c) : bI c = 1 := if_pos h
theorem bI_F {c : Prop} [Decidable c] (h : ¬ c) : bI c = 0 := if_neg h
theorem bI_bit {c : Prop} [Decidable c] : jbit (bI c) := by unfold bI; split; exact Or.inr rfl; exact Or.inl rfl
theorem bI_congr {c d : Prop} [Decidable c] [Decidable d] (h : c ↔ d) : bI c = bI d := by unfold bI; simp only [h]
theorem upd_at {f : Nat → Int32} {i k : Nat} {v : Int32} : upd f i v k = if k = i then v else f k := rfl
theorem updL_at {f : Nat → Int64} {i k : Nat} {v : Int64} : vp_updL f i v k = if k = i then v else f k := rfl
theorem jI_uI_eq {S : JS} {h i : Nat} {v : Int32} : jI (uI S h i v) h = upd (jI S h) i v := by simp [jI, uI, uIf, va_up]
theorem jI_uI_ne {S : JS} {h g i : Nat} {v : Int32} (q : g ≠ h) : jI (uI S h i v) g = jI S g := by simp [jI, uI, uIf, va_up, q]
theorem jI_uIf_eq {S : JS} {h : Nat} {f : Nat → Int32} : jI (uIf S h f) h = f := by simp [jI, uIf, va_up]
theorem jI_uIf_ne {S : JS} {h g : Nat} {f : Nat → Int32} (q : g ≠ h) : jI (uIf S h f) g = jI S g := by simp [jI, uIf, va_up, q]
theorem jJ_uJ_eq {S : JS} {h i : Nat} {v : Int64} : jJ (uJ S h i v) h = vp_updL (jJ S h) i v := by simp [jJ, uJ, uJf, va_up]
theorem jJ_uJ_ne {S : JS} {h g i : Nat} {v : Int64} (q : g ≠ h) : jJ (uJ S h i v) g = jJ S g := by simp [jJ, uJ, uJf, va_up, q]
theorem jR_uR_eq {S : JS} {h i : Nat} {v : Option Nat} : jR (uR S h i v) h = va_up (jR S h) i v := by simp [jR, uR, uRf, va_up]
theorem jR_uR_ne {S : JS} {h g i : Nat} {v : Option Nat} (q : g ≠ h) : jR (uR S h i v) g = jR S g := by simp [jR, uR, uRf, va_up, q]
theorem jN_uI {S : JS} {h i : Nat} {v : Int32} : jN (uI S h i v) = jN S := rfl
theorem jN_uJ {S : JS} {h i : Nat} {v : Int64} : jN (uJ S h i v) = jN S := rfl
theorem jN_uR {S : JS} {h i : Nat} {v : Option Nat} : jN (uR S h i v) = jN S := rfl
theorem jK_uI {S : JS} {h i : Nat} {v : Int32} : jK (uI S h i v) = jK S := rfl
theorem jK_uJ {S : JS} {h i : Nat} {v : Int64} : jK (uJ S h i v) = jK S := rfl
theorem jK_uR {S : JS} {h i : Nat} {v : Option Nat} : jK (uR S h i v) = jK S := rfl
theorem jZ_uI {S : JS} {h i : Nat} {v : Int32} : jZ (uI S h i v) = jZ S := rfl
theorem jZ_uJ {S : JS} {h i : Nat} {v : Int64} : jZ (uJ S h i v) = jZ S := rfl
theorem jZ_uR {S : JS} {h i : Nat} {v : Option Nat} : jZ (uR S h i v) = jZ S := rfl
theorem jZ_uIf {S : JS} {h : Nat} {f : Nat → Int32} : jZ (uIf S h f) = jZ S := rfl
theorem jR_uI {S : JS} {h i : Nat} {v : Int32} : jR (uI S h i v) = jR S := rfl
theorem jR_uJ {S : JS} {h i : Nat} {v : Int64} : jR (uJ S h i v) = jR S := rfl
theorem jR_uIf {S : JS} {h : Nat} {f : Nat → Int32} : jR (uIf S h f) = jR S := rfl
theorem jr_uI {S : JS} {h i : Nat} {v : Int32} : jr (uI S h i v) = jr S := rfl
theorem jr_uJ {S : JS} {h i : Nat} {v : Int64} : jr (uJ S h i v) = jr S := rfl
theorem jr_uIf {S : JS} {h : Nat} {f : Nat → Int32} : jr (uIf S h f) = jr S := rfl
theorem jI_uJ {S : JS} {h i : Nat} {v : Int64} : jI (uJ S h i v) = jI S := rfl
theorem jI_uR {S : JS} {h i : Nat} {v : Option Nat} : jI (uR S h i v) = jI S := rfl
theorem jJ_uI {S : JS} {h i : Nat} {v : Int32} : jJ (uI S h i v) = jJ S := rfl
theorem jJ_uR {S : JS} {h i : Nat} {v : Option Nat} : jJ (uR S h i v) = jJ S := rfl
theorem jJ_uIf {S : JS} {h : Nat} {f : Nat → Int32} : jJ (uIf S h f) = jJ S := rfl
theorem jA_uI {S : JS} {h i g k : Nat} {v : Int32} : jA (uI S h i v) g k ↔ jA S g k := Iff.rfl
theorem jA_uJ {S : JS} {h i g k : Nat} {v : Int64} : jA (uJ S h i v) g k ↔ jA S g k := Iff.rfl
theorem jA_uR {S : JS} {h i g k : Nat} {v : Option Nat} : jA (uR S h i v) g k ↔ jA S g k := Iff.rfl
theorem jA_uIf {S : JS} {h g k : Nat} {f : Nat → Int32} : jA (uIf S h f) g k ↔ jA S g k := Iff.rfl
/-! THE STATIC SHAPE: what handles 0..68 are, by program (wip/sh.py) -/
def shKZ : List (Nat × Nat × Nat) := [(0, 11, 14), (1, 9, 12), (2, 8, 4), (3, 13, 4), (4, 13, 4), (5, 13, 4), (6, 8, 4), (7, 13, 16), (8, 13, 16), (9, 13, 16), (10, 16, 6), (11, 13, 60), (12, 13, 12), (13, 17, 2), (14, 5, 14), (15, 13, 400), (16, 13, 12), (17, 13, 12), (18, 13, 12), (19, 13, 12), (20, 13, 400), (21, 13, 401), (22, 13, 401), (23, 1, 3), (24, 0, 3), (25, 13, 7), (26, 14, 32), (27, 13, 540), (28, 13, 540), (29, 7, 7), (30, 13, 540), (31, 13, 540), (32, 14, 540), (33, 13, 60), (34, 13, 60), (35, 6, 2), (36, 14, 4320), (37, 2, 1), (38, 13, 540), (39, 4, 4), (40, 14, 12), (41, 10, 4), (42, 13, 60), (43, 13, 9), (44, 13, 5), (45, 12, 44), (46, 13, 7), (47, 13, 5600), (48, 13, 11200), (49, 15, 2), (50, 13, 400), (51, 13, 96), (52, 13, 400), (53, 13, 400), (54, 13, 400), (55, 13, 400), (56, 14, 6), (57, 14, 3), (58, 14, 13), (59, 14, 400), (60, 13, 540), (61, 13, 540), (62, 13, 540), (63, 14, 540), (64, 15, 276480), (65, 15, 4608), (66, 15, 4608), (67, 14, 12), (68, 13, 60)]
def shRR : List (Nat × Nat × Nat) := [(0, 0, 1), (0, 1, 13), (0, 2, 14), (0, 3, 23), (0, 4, 29), (0, 5, 35), (0, 6, 37), (0, 7, 39), (0, 8, 41), (0, 9, 44), (1, 4, 2), (1, 5, 6), (1, 6, 10), (1, 9, 11), (1, 11, 12), (2, 0, 3), (2, 1, 4), (2, 2, 5), (6, 0, 7), (6, 1, 8), (6, 2, 9), (14, 0, 15), (14, 2, 16), (14, 3, 17), (14, 4, 18), (14, 5, 19), (14, 6, 20), (14, 9, 21), (14, 10, 22), (23, 0, 24), (23, 1, 27), (23, 2, 28), (24, 0, 25), (24, 1, 26), (29, 0, 30), (29, 1, 31), (29, 2, 32), (29, 3, 33), (29, 4, 34), (35, 0, 36), (37, 0, 38), (39, 0, 40), (41, 0, 42), (41, 2, 43), (45, 2, 46), (45, 3, 47), (45, 4, 48), (45, 5, 49), (45, 7, 50), (45, 16, 51), (45, 18, 52), (45, 19, 53), (45, 21, 54), (45, 22, 55), (45, 25, 56), (45, 26, 57), (45, 28, 58), (45, 29, 59), (45, 33, 60), (45, 34, 61), (45, 35, 62), (45, 36, 63), (45, 37, 64), (45, 38, 65), (45, 39, 66), (45, 40, 67), (45, 42, 68)]
def jSh (S : JS) : Prop := 69 ≤ jN S ∧ (∀ q ∈ shKZ, jK S q.1 = q.2.1 ∧ jZ S q.1 = q.2.2) ∧ ∀ q ∈ shRR, jR S q.1 q.2.1 = some q.2.2
theorem shA_0 {S : JS} (h : jSh S) : jA S 0 11 := ⟨Nat.lt_of_lt_of_le (by decide) h.1, (h.2.1 (0, 11, 14) (by decide)).1⟩
theorem shA_1 {S : JS} (h : jSh S) : jA S 1 9 := ⟨Nat.lt_of_lt_of_le (by decide) h.1, (h.2.1 (1, 9, 12) (by decide)).1⟩
theorem shA_2 {S : JS} (h : jSh S) : jA S 2 8 := ⟨Nat.lt_of_lt_of_le (by decide) h.1, (h.2.1 (2, 8, 4) (by decide)).1⟩
theorem shA_3 {S : JS} (h : jSh S) : jA S 3 13 := ⟨Nat.lt_of_lt_of_le (by decide) h.1, (h.2.1 (3, 13, 4) (by decide)).1⟩
theorem shZ_3 {S : JS} (h : jSh S) : jZ S 3 = 4 := (h.2.1 (3, 13, 4) (by decide)).2
theorem shA_4 {S : JS} (h : jSh S) : jA S 4 13 := ⟨Nat.lt_of_lt_of_le (by decide) h.1, (h.2.1 (4, 13, 4) (by decide)).1⟩
theorem shZ_4 {S : JS} (h : jSh S) : jZ S 4 = 4 := (h.2.1 (4, 13, 4) (by decide)).2
theorem shA_5 {S : JS} (h : jSh S) : jA S 5 13 := ⟨Nat.lt_of_lt_of_le (by decide) h.1, (h.2.1 (5, 13, 4) (by decide)).1⟩
theorem shZ_5 {S : JS} (h : jSh S) : jZ S 5 = 4 := (h.2.1 (5, 13, 4) (by decide)).2
theorem shA_6 {S : JS} (h : jSh S) : jA S 6 8 := ⟨Nat.lt_of_lt_of_le (by decide) h.1, (h.2.1 (6, 8, 4) (by decide)).1⟩
theorem shA_7 {S : JS} (h : jSh S) : jA S 7 13 := ⟨Nat.lt_of_lt_of_le (by decide) h.1, (h.2.1 (7, 13, 16) (by decide)).1⟩
theorem shZ_7 {S : JS} (h : jSh S) : jZ S 7 = 16 := (h.2.1 (7, 13, 16) (by decide)).2
theorem shA_8 {S : JS} (h : jSh S) : jA S 8 13 := ⟨Nat.lt_of_lt_of_le (by decide) h.1, (h.2.1 (8, 13, 16) (by decide)).1⟩
theorem shZ_8 {S : JS} (h : jSh S) : jZ S 8 = 16 := (h.2.1 (8, 13, 16) (by decide)).2
theorem shA_9 {S : JS} (h : jSh S) : jA S 9 13 := ⟨Nat.lt_of_lt_of_le (by decide) h.1, (h.2.1 (9, 13, 16) (by decide)).1⟩
theorem shZ_9 {S : JS} (h : jSh S) : jZ S 9 = 16 := (h.2.1 (9, 13, 16) (by decide)).2
theorem shA_10 {S : JS} (h : jSh S) : jA S 10 16 := ⟨Nat.lt_of_lt_of_le (by decide) h.1, (h.2.1 (10, 16, 6) (by decide)).1⟩
theorem shZ_10 {S : JS} (h : jSh S) : jZ S 10 = 6 := (h.2.1 (10, 16, 6) (by decide)).2
theorem shA_11 {S : JS} (h : jSh S) : jA S 11 13 := ⟨Nat.lt_of_lt_of_le (by decide) h.1, (h.2.1 (11, 13, 60) (by decide)).1⟩
theorem shZ_11 {S : JS} (h : jSh S) : jZ S 11 = 60 := (h.2.1 (11, 13, 60) (by decide)).2
theorem shA_12 {S : JS} (h : jSh S) : jA S 12 13 := ⟨Nat.lt_of_lt_of_le (by decide) h.1, (h.2.1 (12, 13, 12) (by decide)).1⟩
theorem shZ_12 {S : JS} (h : jSh S) : jZ S 12 = 12 := (h.2.1 (12, 13, 12) (by decide)).2
theorem shA_13 {S : JS} (h : jSh S) : jA S 13 17 := ⟨Nat.lt_of_lt_of_le (by decide) h.1, (h.2.1 (13, 17, 2) (by decide)).1⟩
theorem shZ_13 {S : JS} (h : jSh S) : jZ S 13 = 2 := (h.2.1 (13, 17, 2) (by decide)).2
theorem shA_14 {S : JS} (h : jSh S) : jA S 14 5 := ⟨Nat.lt_of_lt_of_le (by decide) h.1, (h.2.1 (14, 5, 14) (by decide)).1⟩
theorem shA_15 {S : JS} (h : jSh S) : jA S 15 13 := ⟨Nat.lt_of_lt_of_le (by decide) h.1, (h.2.1 (15, 13, 400) (by decide)).1⟩
theorem shZ_15 {S : JS} (h : jSh S) : jZ S 15 = 400 := (h.2.1 (15, 13, 400) (by decide)).2
theorem shA_16 {S : JS} (h : jSh S) : jA S 16 13 := ⟨Nat.lt_of_lt_of_le (by decide) h.1, (h.2.1 (16, 13, 12) (by decide)).1⟩
theorem shZ_16 {S : JS} (h : jSh S) : jZ S 16 = 12 := (h.2.1 (16, 13, 12) (by decide)).2
theorem shA_17 {S : JS} (h : jSh S) : jA S 17 13 := ⟨Nat.lt_of_lt_of_le (by decide) h.1, (h.2.1 (17, 13, 12) (by decide)).1⟩
theorem shZ_17 {S : JS} (h : jSh S) : jZ S 17 = 12 := (h.2.1 (17, 13, 12) (by decide)).2
theorem shA_18 {S : JS} (h : jSh S) : jA S 18 13 := ⟨Nat.lt_of_lt_of_le (by decide) h.1, (h.2.1 (18, 13, 12) (by decide)).1⟩
theorem shZ_18 {S : JS} (h : jSh S) : jZ S 18 = 12 := (h.2.1 (18, 13, 12) (by decide)).2
theorem shA_19 {S : JS} (h : jSh S) : jA S 19 13 := ⟨Nat.lt_of_lt_of_le (by decide) h.1, (h.2.1 (19, 13, 12) (by decide)).1⟩
theorem shZ_19 {S : JS} (h : jSh S) : jZ S 19 = 12 := (h.2.1 (19, 13, 12) (by decide)).2
theorem shA_20 {S : JS} (h : jSh S) : jA S 20 13 := ⟨Nat.lt_of_lt_of_le (by decide) h.1, (h.2.1 (20, 13, 400) (by decide)).1⟩
theorem shZ_20 {S : JS} (h : jSh S) : jZ S 20 = 400 := (h.2.1 (20, 13, 400) (by decide)).2
theorem shA_21 {S : JS} (h : jSh S) : jA S 21 13 := ⟨Nat.lt_of_lt_of_le (by decide) h.1, (h.2.1 (21, 13, 401) (by decide)).1⟩
theorem shZ_21 {S : JS} (h : jSh S) : jZ S 21 = 401 := (h.2.1 (21, 13, 401) (by decide)).2
theorem shA_22 {S : JS} (h : jSh S) : jA S 22 13 := ⟨Nat.lt_of_lt_of_le (by decide) h.1, (h.2.1 (22, 13, 401) (by decide)).1⟩
theorem shZ_22 {S : JS} (h : jSh S) : jZ S 22 = 401 := (h.2.1 (22, 13, 401) (by decide)).2
theorem shA_23 {S : JS} (h : jSh S) : jA S 23 1 := ⟨Nat.lt_of_lt_of_le (by decide) h.1, (h.2.1 (23, 1, 3) (by decide)).1⟩
theorem shA_24 {S : JS} (h : jSh S) : jA S 24 0 := ⟨Nat.lt_of_lt_of_le (by decide) h.1, (h.2.1 (24, 0, 3) (by decide)).1⟩
theorem shA_25 {S : JS} (h : jSh S) : jA S 25 13 := ⟨Nat.lt_of_lt_of_le (by decide) h.1, (h.2.1 (25, 13, 7) (by decide)).1⟩
theorem shZ_25 {S : JS} (h : jSh S) : jZ S 25 = 7 := (h.2.1 (25, 13, 7) (by decide)).2
theorem shA_26 {S : JS} (h : jSh S) : jA S 26 14 := ⟨Nat.lt_of_lt_of_le (by decide) h.1, (h.2.1 (26, 14, 32) (by decide)).1⟩
theorem shZ_26 {S : JS} (h : jSh S) : jZ S 26 = 32 := (h.2.1 (26, 14, 32) (by decide)).2
theorem shA_27 {S : JS} (h : jSh S) : jA S 27 13 := ⟨Nat.lt_of_lt_of_le (by decide) h.1, (h.2.1 (27, 13, 540) (by decide)).1⟩
theorem shZ_27 {S : JS} (h : jSh S) : jZ S 27 = 540 := (h.2.1 (27, 13, 540) (by decide)).2
theorem shA_28 {S : JS} (h : jSh S) : jA S 28 13 := ⟨Nat.lt_of_lt_of_le (by decide) h.1, (h.2.1 (28, 13, 540) (by decide)).1⟩
theorem shZ_28 {S : JS} (h : jSh S) : jZ S 28 = 540 := (h.2.1 (28, 13, 540) (by decide)).2
theorem shA_29 {S : JS} (h : jSh S) : jA S 29 7 := ⟨Nat.lt_of_lt_of_le (by decide) h.1, (h.2.1 (29, 7, 7) (by decide)).1⟩
theorem shA_30 {S : JS} (h : jSh S) : jA S 30 13 := ⟨Nat.lt_of_lt_of_le (by decide) h.1, (h.2.1 (30, 13, 540) (by decide)).1⟩
theorem shZ_30 {S : JS} (h : jSh S) : jZ S 30 = 540 := (h.2.1 (30, 13, 540) (by decide)).2
theorem shA_31 {S : JS} (h : jSh S) : jA S 31 13 := ⟨Nat.lt_of_lt_of_le (by decide) h.1, (h.2.1 (31, 13, 540) (by decide)).1⟩
theorem shZ_31 {S : JS} (h : jSh S) : jZ S 31 = 540 := (h.2.1 (31, 13, 540) (by decide)).2
theorem shA_32 {S : JS} (h : jSh S) : jA S 32 14 := ⟨Nat.lt_of_lt_of_le (by decide) h.1, (h.2.1 (32, 14, 540) (by decide)).1⟩
theorem shZ_32 {S : JS} (h : jSh S) : jZ S 32 = 540 := (h.2.1 (32, 14, 540) (by decide)).2
theorem shA_33 {S : JS} (h : jSh S) : jA S 33 13 := ⟨Nat.lt_of_lt_of_le (by decide) h.1, (h.2.1 (33, 13, 60) (by decide)).1⟩
theorem shZ_33 {S : JS} (h : jSh S) : jZ S 33 = 60 := (h.2.1 (33, 13, 60) (by decide)).2
theorem shA_34 {S : JS} (h : jSh S) : jA S 34 13 := ⟨Nat.lt_of_lt_of_le (by decide) h.1, (h.2.1 (34, 13, 60) (by decide)).1⟩
theorem shZ_34 {S : JS} (h : jSh S) : jZ S 34 = 60 := (h.2.1 (34, 13, 60) (by decide)).2
theorem shA_35 {S : JS} (h : jSh S) : jA S 35 6 := ⟨Nat.lt_of_lt_of_le (by decide) h.1, (h.2.1 (35, 6, 2) (by decide)).1⟩
theorem shA_36 {S : JS} (h : jSh S) : jA S 36 14 := ⟨Nat.lt_of_lt_of_le (by decide) h.1, (h.2.1 (36, 14, 4320) (by decide)).1⟩
theorem shZ_36 {S : JS} (h : jSh S) : jZ S 36 = 4320 := (h.2.1 (36, 14, 4320) (by decide)).2
theorem shA_37 {S : JS} (h : jSh S) : jA S 37 2 := ⟨Nat.lt_of_lt_of_le (by decide) h.1, (h.2.1 (37, 2, 1) (by decide)).1⟩
theorem shA_38 {S : JS} (h : jSh S) : jA S 38 13 := ⟨Nat.lt_of_lt_of_le (by decide) h.1, (h.2.1 (38, 13, 540) (by decide)).1⟩
theorem shZ_38 {S : JS} (h : jSh S) : jZ S 38 = 540 := (h.2.1 (38, 13, 540) (by decide)).2
theorem shA_39 {S : JS} (h : jSh S) : jA S 39 4 := ⟨Nat.lt_of_lt_of_le (by decide) h.1, (h.2.1 (39, 4, 4) (by decide)).1⟩
theorem shA_40 {S : JS} (h : jSh S) : jA S 40 14 := ⟨Nat.lt_of_lt_of_le (by decide) h.1, (h.2.1 (40, 14, 12) (by decide)).1⟩
theorem shZ_40 {S : JS} (h : jSh S) : jZ S 40 = 12 := (h.2.1 (40, 14, 12) (by decide)).2
theorem shA_41 {S : JS} (h : jSh S) : jA S 41 10 := ⟨Nat.lt_of_lt_of_le (by decide) h.1, (h.2.1 (41, 10, 4) (by decide)).1⟩
theorem shA_42 {S : JS} (h : jSh S) : jA S 42 13 := ⟨Nat.lt_of_lt_of_le (by decide) h.1, (h.2.1 (42, 13, 60) (by decide)).1⟩
theorem shZ_42 {S : JS} (h : jSh S) : jZ S 42 = 60 := (h.2.1 (42, 13, 60) (by decide)).2
theorem shA_43 {S : JS} (h : jSh S) : jA S 43 13 := ⟨Nat.lt_of_lt_of_le (by decide) h.1, (h.2.1 (43, 13, 9) (by decide)).1⟩
theorem shZ_43 {S : JS} (h : jSh S) : jZ S 43 = 9 := (h.2.1 (43, 13, 9) (by decide)).2
theorem shA_44 {S : JS} (h : jSh S) : jA S 44 13 := ⟨Nat.lt_of_lt_of_le (by decide) h.1, (h.2.1 (44, 13, 5) (by decide)).1⟩
theorem shZ_44 {S : JS} (h : jSh S) : jZ S 44 = 5 := (h.2.1 (44, 13, 5) (by decide)).2
theorem shA_45 {S : JS} (h : jSh S) : jA S 45 12 := ⟨Nat.lt_of_lt_of_le (by decide) h.1, (h.2.1 (45, 12, 44) (by decide)).1⟩
theorem shA_46 {S : JS} (h : jSh S) : jA S 46 13 := ⟨Nat.lt_of_lt_of_le (by decide) h.1, (h.2.1 (46, 13, 7) (by decide)).1⟩
theorem shZ_46 {S : JS} (h : jSh S) : jZ S 46 = 7 := (h.2.1 (46, 13, 7) (by decide)).2
theorem shA_47 {S : JS} (h : jSh S) : jA S 47 13 := ⟨Nat.lt_of_lt_of_le (by decide) h.1, (h.2.1 (47, 13, 5600) (by decide)).1⟩
theorem shZ_47 {S : JS} (h : jSh S) : jZ S 47 = 5600 := (h.2.1 (47, 13, 5600) (by decide)).2
theorem shA_48 {S : JS} (h : jSh S) : jA S 48 13 := ⟨Nat.lt_of_lt_of_le (by decide) h.1, (h.2.1 (48, 13, 11200) (by decide)).1⟩
theorem shZ_48 {S : JS} (h : jSh S) : jZ S 48 = 11200 := (h.2.1 (48, 13, 11200) (by decide)).2
theorem shA_49 {S : JS} (h : jSh S) : jA S 49 15 := ⟨Nat.lt_of_lt_of_le (by decide) h.1, (h.2.1 (49, 15, 2) (by decide)).1⟩
theorem shZ_49 {S : JS} (h : jSh S) : jZ S 49 = 2 := (h.2.1 (49, 15, 2) (by decide)).2
theorem shA_50 {S : JS} (h : jSh S) : jA S 50 13 := ⟨Nat.lt_of_lt_of_le (by decide) h.1, (h.2.1 (50, 13, 400) (by decide)).1⟩
theorem shZ_50 {S : JS} (h : jSh S) : jZ S 50 = 400 := (h.2.1 (50, 13, 400) (by decide)).2
theorem shA_51 {S : JS} (h : jSh S) : jA S 51 13 := ⟨Nat.lt_of_lt_of_le (by decide) h.1, (h.2.1 (51, 13, 96) (by decide)).1⟩
theorem shZ_51 {S : JS} (h : jSh S) : jZ S 51 = 96 := (h.2.1 (51, 13, 96) (by decide)).2
theorem shA_52 {S : JS} (h : jSh S) : jA S 52 13 := ⟨Nat.lt_of_lt_of_le (by decide) h.1, (h.2.1 (52, 13, 400) (by decide)).1⟩
theorem shZ_52 {S : JS} (h : jSh S) : jZ S 52 = 400 := (h.2.1 (52, 13, 400) (by decide)).2
theorem shA_53 {S : JS} (h : jSh S) : jA S 53 13 := ⟨Nat.lt_of_lt_of_le (by decide) h.1, (h.2.1 (53, 13, 400) (by decide)).1⟩
theorem shZ_53 {S : JS} (h : jSh S) : jZ S 53 = 400 := (h.2.1 (53, 13, 400) (by decide)).2
theorem shA_54 {S : JS} (h : jSh S) : jA S 54 13 := ⟨Nat.lt_of_lt_of_le (by decide) h.1, (h.2.1 (54, 13, 400) (by decide)).1⟩
theorem shZ_54 {S : JS} (h : jSh S) : jZ S 54 = 400 := (h.2.1 (54, 13, 400) (by decide)).2
theorem shA_55 {S : JS} (h : jSh S) : jA S 55 13 := ⟨Nat.lt_of_lt_of_le (by decide) h.1, (h.2.1 (55, 13, 400) (by decide)).1⟩
theorem shZ_55 {S : JS} (h : jSh S) : jZ S 55 = 400 := (h.2.1 (55, 13, 400) (by decide)).2
theorem shA_56 {S : JS} (h : jSh S) : jA S 56 14 := ⟨Nat.lt_of_lt_of_le (by decide) h.1, (h.2.1 (56, 14, 6) (by decide)).1⟩
theorem shZ_56 {S : JS} (h : jSh S) : jZ S 56 = 6 := (h.2.1 (56, 14, 6) (by decide)).2
theorem shA_57 {S : JS} (h : jSh S) : jA S 57 14 := ⟨Nat.lt_of_lt_of_le (by decide) h.1, (h.2.1 (57, 14, 3) (by decide)).1⟩
theorem shZ_57 {S : JS} (h : jSh S) : jZ S 57 = 3 := (h.2.1 (57, 14, 3) (by decide)).2
theorem shA_58 {S : JS} (h : jSh S) : jA S 58 14 := ⟨Nat.lt_of_lt_of_le (by decide) h.1, (h.2.1 (58, 14, 13) (by decide)).1⟩
theorem shZ_58 {S : JS} (h : jSh S) : jZ S 58 = 13 := (h.2.1 (58, 14, 13) (by decide)).2
theorem shA_59 {S : JS} (h : jSh S) : jA S 59 14 := ⟨Nat.lt_of_lt_of_le (by decide) h.1, (h.2.1 (59, 14, 400) (by decide)).1⟩
theorem shZ_59 {S : JS} (h : jSh S) : jZ S 59 = 400 := (h.2.1 (59, 14, 400) (by decide)).2
theorem shA_60 {S : JS} (h : jSh S) : jA S 60 13 := ⟨Nat.lt_of_lt_of_le (by decide) h.1, (h.2.1 (60, 13, 540) (by decide)).1⟩
theorem shZ_60 {S : JS} (h : jSh S) : jZ S 60 = 540 := (h.2.1 (60, 13, 540) (by decide)).2
theorem shA_61 {S : JS} (h : jSh S) : jA S 61 13 := ⟨Nat.lt_of_lt_of_le (by decide) h.1, (h.2.1 (61, 13, 540) (by decide)).1⟩
theorem shZ_61 {S : JS} (h : jSh S) : jZ S 61 = 540 := (h.2.1 (61, 13, 540) (by decide)).2
theorem shA_62 {S : JS} (h : jSh S) : jA S 62 13 := ⟨Nat.lt_of_lt_of_le (by decide) h.1, (h.2.1 (62, 13, 540) (by decide)).1⟩
theorem shZ_62 {S : JS} (h : jSh S) : jZ S 62 = 540 := (h.2.1 (62, 13, 540) (by decide)).2
theorem shA_63 {S : JS} (h : jSh S) : jA S 63 14 := ⟨Nat.lt_of_lt_of_le (by decide) h.1, (h.2.1 (63, 14, 540) (by decide)).1⟩
theorem shZ_63 {S : JS} (h : jSh S) : jZ S 63 = 540 := (h.2.1 (63, 14, 540) (by decide)).2
theorem shA_64 {S : JS} (h : jSh S) : jA S 64 15 := ⟨Nat.lt_of_lt_of_le (by decide) h.1, (h.2.1 (64, 15, 276480) (by decide)).1⟩
theorem shZ_64 {S : JS} (h : jSh S) : jZ S 64 = 276480 := (h.2.1 (64, 15, 276480) (by decide)).2
theorem shA_65 {S : JS} (h : jSh S) : jA S 65 15 := ⟨Nat.lt_of_lt_of_le (by decide) h.1, (h.2.1 (65, 15, 4608) (by decide)).1⟩
theorem shZ_65 {S : JS} (h : jSh S) : jZ S 65 = 4608 := (h.2.1 (65, 15, 4608) (by decide)).2
theorem shA_66 {S : JS} (h : jSh S) : jA S 66 15 := ⟨Nat.lt_of_lt_of_le (by decide) h.1, (h.2.1 (66, 15, 4608) (by decide)).1⟩
theorem shZ_66 {S : JS} (h : jSh S) : jZ S 66 = 4608 := (h.2.1 (66, 15, 4608) (by decide)).2
theorem shA_67 {S : JS} (h : jSh S) : jA S 67 14 := ⟨Nat.lt_of_lt_of_le (by decide) h.1, (h.2.1 (67, 14, 12) (by decide)).1⟩
theorem shZ_67 {S : JS} (h : jSh S) : jZ S 67 = 12 := (h.2.1 (67, 14, 12) (by decide)).2
theorem shA_68 {S : JS} (h : jSh S) : jA S 68 13 := ⟨Nat.lt_of_lt_of_le (by decide) h.1, (h.2.1 (68, 13, 60) (by decide)).1⟩
theorem shZ_68 {S : JS} (h : jSh S) : jZ S 68 = 60 := (h.2.1 (68, 13, 60) (by decide)).2
theorem shR_0_0 {S : JS} (h : jSh S) : jR S 0 0 = some 1 := h.2.2 (0, 0, 1) (by decide)
theorem shr_0_0 {S : JS} (h : jSh S) : jr S 0 0 = 1 := by rw [jr, shR_0_0 h]; rfl
theorem shR_0_1 {S : JS} (h : jSh S) : jR S 0 1 = some 13 := h.2.2 (0, 1, 13) (by decide)
theorem shr_0_1 {S : JS} (h : jSh S) : jr S 0 1 = 13 := by rw [jr, shR_0_1 h]; rfl
theorem shR_0_2 {S : JS} (h : jSh S) : jR S 0 2 = some 14 := h.2.2 (0, 2, 14) (by decide)
theorem shr_0_2 {S : JS} (h : jSh S) : jr S 0 2 = 14 := by rw [jr, shR_0_2 h]; rfl
theorem shR_0_3 {S : JS} (h : jSh S) : jR S 0 3 = some 23 := h.2.2 (0, 3, 23) (by decide)
theorem shr_0_3 {S : JS} (h : jSh S) : jr S 0 3 = 23 := by rw [jr, shR_0_3 h]; rfl
theorem shR_0_4 {S : JS} (h : jSh S) : jR S 0 4 = some 29 := h.2.2 (0, 4, 29) (by decide)
theorem shr_0_4 {S : JS} (h : jSh S) : jr S 0 4 = 29 := by rw [jr, shR_0_4 h]; rfl
theorem shR_0_5 {S : JS} (h : jSh S) : jR S 0 5 = some 35 := h.2.2 (0, 5, 35) (by decide)
theorem shr_0_5 {S : JS} (h : jSh S) : jr S 0 5 = 35 := by rw [jr, shR_0_5 h]; rfl
theorem shR_0_6 {S : JS} (h : jSh S) : jR S 0 6 = some 37 := h.2.2 (0, 6, 37) (by decide)
theorem shr_0_6 {S : JS} (h : jSh S) : jr S 0 6 = 37 := by rw [jr, shR_0_6 h]; rfl
theorem shR_0_7 {S : JS} (h : jSh S) : jR S 0 7 = some 39 := h.2.2 (0, 7, 39) (by decide)
theorem shr_0_7 {S : JS} (h : jSh S) : jr S 0 7 = 39 := by rw [jr, shR_0_7 h]; rfl
theorem shR_0_8 {S : JS} (h : jSh S) : jR S 0 8 = some 41 := h.2.2 (0, 8, 41) (by decide)
theorem shr_0_8 {S : JS} (h : jSh S) : jr S 0 8 = 41 := by rw [jr, shR_0_8 h]; rfl
theorem shR_0_9 {S : JS} (h : jSh S) : jR S 0 9 = some 44 := h.2.2 (0, 9, 44) (by decide)
theorem shr_0_9 {S : JS} (h : jSh S) : jr S 0 9 = 44 := by rw [jr, shR_0_9 h]; rfl
theorem shR_1_4 {S : JS} (h : jSh S) : jR S 1 4 = some 2 := h.2.2 (1, 4, 2) (by decide)
theorem shr_1_4 {S : JS} (h : jSh S) : jr S 1 4 = 2 := by rw [jr, shR_1_4 h]; rfl
theorem shR_1_5 {S : JS} (h : jSh S) : jR S 1 5 = some 6 := h.2.2 (1, 5, 6) (by decide)
theorem shr_1_5 {S : JS} (h : jSh S) : jr S 1 5 = 6 := by rw [jr, shR_1_5 h]; rfl
theorem shR_1_6 {S : JS} (h : jSh S) : jR S 1 6 = some 10 := h.2.2 (1, 6, 10) (by decide)
theorem shr_1_6 {S : JS} (h : jSh S) : jr S 1 6 = 10 := by rw [jr, shR_1_6 h]; rfl
theorem shR_1_9 {S : JS} (h : jSh S) : jR S 1 9 = some 11 := h.2.2 (1, 9, 11) (by decide)
theorem shr_1_9 {S : JS} (h : jSh S) : jr S 1 9 = 11 := by rw [jr, shR_1_9 h]; rfl
theorem shR_1_11 {S : JS} (h : jSh S) : jR S 1 11 = some 12 := h.2.2 (1, 11, 12) (by decide)
theorem shr_1_11 {S : JS} (h : jSh S) : jr S 1 11 = 12 := by rw [jr, shR_1_11 h]; rfl
theorem shR_2_0 {S : JS} (h : jSh S) : jR S 2 0 = some 3 := h.2.2 (2, 0, 3) (by decide)
theorem shr_2_0 {S : JS} (h : jSh S) : jr S 2 0 = 3 := by rw [jr, shR_2_0 h]; rfl
theorem shR_2_1 {S : JS} (h : jSh S) : jR S 2 1 = some 4 := h.2.2 (2, 1, 4) (by decide)
theorem shr_2_1 {S : JS} (h : jSh S) : jr S 2 1 = 4 := by rw [jr, shR_2_1 h]; rfl
theorem shR_2_2 {S : JS} (h : jSh S) : jR S 2 2 = some 5 := h.2.2 (2, 2, 5) (by decide)
theorem shr_2_2 {S : JS} (h : jSh S) : jr S 2 2 = 5 := by rw [jr, shR_2_2 h]; rfl
theorem shR_6_0 {S : JS} (h : jSh S) : jR S 6 0 = some 7 := h.2.2 (6, 0, 7) (by decide)
theorem shr_6_0 {S : JS} (h : jSh S) : jr S 6 0 = 7 := by rw [jr, shR_6_0 h]; rfl
theorem shR_6_1 {S : JS} (h : jSh S) : jR S 6 1 = some 8 := h.2.2 (6, 1, 8) (by decide)
theorem shr_6_1 {S : JS} (h : jSh S) : jr S 6 1 = 8 := by rw [jr, shR_6_1 h]; rfl
theorem shR_6_2 {S : JS} (h : jSh S) : jR S 6 2 = some 9 := h.2.2 (6, 2, 9) (by decide)
theorem shr_6_2 {S : JS} (h : jSh S) : jr S 6 2 = 9 := by rw [jr, shR_6_2 h]; rfl
theorem shR_14_0 {S : JS} (h : jSh S) : jR S 14 0 = some 15 := h.2.2 (14, 0, 15) (by decide)
theorem shr_14_0 {S : JS} (h : jSh S) : jr S 14 0 = 15 := by rw [jr, shR_14_0 h]; rfl
theorem shR_14_2 {S : JS} (h : jSh S) : jR S 14 2 = some 16 := h.2.2 (14, 2, 16) (by decide)
theorem shr_14_2 {S : JS} (h : jSh S) : jr S 14 2 = 16 := by rw [jr, shR_14_2 h]; rfl
theorem shR_14_3 {S : JS} (h : jSh S) : jR S 14 3 = some 17 := h.2.2 (14, 3, 17) (by decide)
theorem shr_14_3 {S : JS} (h : jSh S) : jr S 14 3 = 17 := by rw [jr, shR_14_3 h]; rfl
theorem shR_14_4 {S : JS} (h : jSh S) : jR S 14 4 = some 18 := h.2.2 (14, 4, 18) (by decide)
theorem shr_14_4 {S : JS} (h : jSh S) : jr S 14 4 = 18 := by rw [jr, shR_14_4 h]; rfl
theorem shR_14_5 {S : JS} (h : jSh S) : jR S 14 5 = some 19 := h.2.2 (14, 5, 19) (by decide)
theorem shr_14_5 {S : JS} (h : jSh S) : jr S 14 5 = 19 := by rw [jr, shR_14_5 h]; rfl
theorem shR_14_6 {S : JS} (h : jSh S) : jR S 14 6 = some 20 := h.2.2 (14, 6, 20) (by decide)
theorem shr_14_6 {S : JS} (h : jSh S) : jr S 14 6 = 20 := by rw [jr, shR_14_6 h]; rfl
theorem shR_14_9 {S : JS} (h : jSh S) : jR S 14 9 = some 21 := h.2.2 (14, 9, 21) (by decide)
theorem shr_14_9 {S : JS} (h : jSh S) : jr S 14 9 = 21 := by rw [jr, shR_14_9 h]; rfl
theorem shR_14_10 {S : JS} (h : jSh S) : jR S 14 10 = some 22 := h.2.2 (14, 10, 22) (by decide)
theorem shr_14_10 {S : JS} (h : jSh S) : jr S 14 10 = 22 := by rw [jr, shR_14_10 h]; rfl
theorem shR_23_0 {S : JS} (h : jSh S) : jR S 23 0 = some 24 := h.2.2 (23, 0, 24) (by decide)
theorem shr_23_0 {S : JS} (h : jSh S) : jr S 23 0 = 24 := by rw [jr, shR_23_0 h]; rfl
theorem shR_23_1 {S : JS} (h : jSh S) : jR S 23 1 = some 27 := h.2.2 (23, 1, 27) (by decide)
theorem shr_23_1 {S : JS} (h : jSh S) : jr S 23 1 = 27 := by rw [jr, shR_23_1 h]; rfl
theorem shR_23_2 {S : JS} (h : jSh S) : jR S 23 2 = some 28 := h.2.2 (23, 2, 28) (by decide)
theorem shr_23_2 {S : JS} (h : jSh S) : jr S 23 2 = 28 := by rw [jr, shR_23_2 h]; rfl
theorem shR_24_0 {S : JS} (h : jSh S) : jR S 24 0 = some 25 := h.2.2 (24, 0, 25) (by decide)
theorem shr_24_0 {S : JS} (h : jSh S) : jr S 24 0 = 25 := by rw [jr, shR_24_0 h]; rfl
theorem shR_24_1 {S : JS} (h : jSh S) : jR S 24 1 = some 26 := h.2.2 (24, 1, 26) (by decide)
theorem shr_24_1 {S : JS} (h : jSh S) : jr S 24 1 = 26 := by rw [jr, shR_24_1 h]; rfl
theorem shR_29_0 {S : JS} (h : jSh S) : jR S 29 0 = some 30 := h.2.2 (29, 0, 30) (by decide)
theorem shr_29_0 {S : JS} (h : jSh S) : jr S 29 0 = 30 := by rw [jr, shR_29_0 h]; rfl
theorem shR_29_1 {S : JS} (h : jSh S) : jR S 29 1 = some 31 := h.2.2 (29, 1, 31) (by decide)
theorem shr_29_1 {S : JS} (h : jSh S) : jr S 29 1 = 31 := by rw [jr, shR_29_1 h]; rfl
theorem shR_29_2 {S : JS} (h : jSh S) : jR S 29 2 = some 32 := h.2.2 (29, 2, 32) (by decide)
theorem shr_29_2 {S : JS} (h : jSh S) : jr S 29 2 = 32 := by rw [jr, shR_29_2 h]; rfl
theorem shR_29_3 {S : JS} (h : jSh S) : jR S 29 3 = some 33 := h.2.2 (29, 3, 33) (by decide)
theorem shr_29_3 {S : JS} (h : jSh S) : jr S 29 3 = 33 := by rw [jr, shR_29_3 h]; rfl
theorem shR_29_4 {S : JS} (h : jSh S) : jR S 29 4 = some 34 := h.2.2 (29, 4, 34) (by decide)
theorem shr_29_4 {S : JS} (h : jSh S) : jr S 29 4 = 34 := by rw [jr, shR_29_4 h]; rfl
theorem shR_35_0 {S : JS} (h : jSh S) : jR S 35 0 = some 36 := h.2.2 (35, 0, 36) (by decide)
theorem shr_35_0 {S : JS} (h : jSh S) : jr S 35 0 = 36 := by rw [jr, shR_35_0 h]; rfl
theorem shR_37_0 {S : JS} (h : jSh S) : jR S 37 0 = some 38 := h.2.2 (37, 0, 38) (by decide)
theorem shr_37_0 {S : JS} (h : jSh S) : jr S 37 0 = 38 := by rw [jr, shR_37_0 h]; rfl
theorem shR_39_0 {S : JS} (h : jSh S) : jR S 39 0 = some 40 := h.2.2 (39, 0, 40) (by decide)
theorem shr_39_0 {S : JS} (h : jSh S) : jr S 39 0 = 40 := by rw [jr, shR_39_0 h]; rfl
theorem shR_41_0 {S : JS} (h : jSh S) : jR S 41 0 = some 42 := h.2.2 (41, 0, 42) (by decide)
theorem shr_41_0 {S : JS} (h : jSh S) : jr S 41 0 = 42 := by rw [jr, shR_41_0 h]; rfl
theorem shR_41_2 {S : JS} (h : jSh S) : jR S 41 2 = some 43 := h.2.2 (41, 2, 43) (by decide)
theorem shr_41_2 {S : JS} (h : jSh S) : jr S 41 2 = 43 := by rw [jr, shR_41_2 h]; rfl
theorem shR_45_2 {S : JS} (h : jSh S) : jR S 45 2 = some 46 := h.2.2 (45, 2, 46) (by decide)
theorem shr_45_2 {S : JS} (h : jSh S) : jr S 45 2 = 46 := by rw [jr, shR_45_2 h]; rfl
theorem shR_45_3 {S : JS} (h : jSh S) : jR S 45 3 = some 47 := h.2.2 (45, 3, 47) (by decide)
theorem shr_45_3 {S : JS} (h : jSh S) : jr S 45 3 = 47 := by rw [jr, shR_45_3 h]; rfl
theorem shR_45_4 {S : JS} (h : jSh S) : jR S 45 4 = some 48 := h.2.2 (45, 4, 48) (by decide)
theorem shr_45_4 {S : JS} (h : jSh S) : jr S 45 4 = 48 := by rw [jr, shR_45_4 h]; rfl
theorem shR_45_5 {S : JS} (h : jSh S) : jR S 45 5 = some 49 := h.2.2 (45, 5, 49) (by decide)
theorem shr_45_5 {S : JS} (h : jSh S) : jr S 45 5 = 49 := by rw [jr, shR_45_5 h]; rfl
theorem shR_45_7 {S : JS} (h : jSh S) : jR S 45 7 = some 50 := h.2.2 (45, 7, 50) (by decide)
theorem shr_45_7 {S : JS} (h : jSh S) : jr S 45 7 = 50 := by rw [jr, shR_45_7 h]; rfl
theorem shR_45_16 {S : JS} (h : jSh S) : jR S 45 16 = some 51 := h.2.2 (45, 16, 51) (by decide)
theorem shr_45_16 {S : JS} (h : jSh S) : jr S 45 16 = 51 := by rw [jr, shR_45_16 h]; rfl
theorem shR_45_18 {S : JS} (h : jSh S) : jR S 45 18 = some 52 := h.2.2 (45, 18, 52) (by decide)
theorem shr_45_18 {S : JS} (h : jSh S) : jr S 45 18 = 52 := by rw [jr, shR_45_18 h]; rfl
theorem shR_45_19 {S : JS} (h : jSh S) : jR S 45 19 = some 53 := h.2.2 (45, 19, 53) (by decide)
theorem shr_45_19 {S : JS} (h : jSh S) : jr S 45 19 = 53 := by rw [jr, shR_45_19 h]; rfl
theorem shR_45_21 {S : JS} (h : jSh S) : jR S 45 21 = some 54 := h.2.2 (45, 21, 54) (by decide)
theorem shr_45_21 {S : JS} (h : jSh S) : jr S 45 21 = 54 := by rw [jr, shR_45_21 h]; rfl
theorem shR_45_22 {S : JS} (h : jSh S) : jR S 45 22 = some 55 := h.2.2 (45, 22, 55) (by decide)
theorem shr_45_22 {S : JS} (h : jSh S) : jr S 45 22 = 55 := by rw [jr, shR_45_22 h]; rfl
theorem shR_45_25 {S : JS} (h : jSh S) : jR S 45 25 = some 56 := h.2.2 (45, 25, 56) (by decide)
theorem shr_45_25 {S : JS} (h : jSh S) : jr S 45 25 = 56 := by rw [jr, shR_45_25 h]; rfl
theorem shR_45_26 {S : JS} (h : jSh S) : jR S 45 26 = some 57 := h.2.2 (45, 26, 57) (by decide)
theorem shr_45_26 {S : JS} (h : jSh S) : jr S 45 26 = 57 := by rw [jr, shR_45_26 h]; rfl
theorem shR_45_28 {S : JS} (h : jSh S) : jR S 45 28 = some 58 := h.2.2 (45, 28, 58) (by decide)
theorem shr_45_28 {S : JS} (h : jSh S) : jr S 45 28 = 58 := by rw [jr, shR_45_28 h]; rfl
theorem shR_45_29 {S : JS} (h : jSh S) : jR S 45 29 = some 59 := h.2.2 (45, 29, 59) (by decide)
theorem shr_45_29 {S : JS} (h : jSh S) : jr S 45 29 = 59 := by rw [jr, shR_45_29 h]; rfl
theorem shR_45_33 {S : JS} (h : jSh S) : jR S 45 33 = some 60 := h.2.2 (45, 33, 60) (by decide)
theorem shr_45_33 {S : JS} (h : jSh S) : jr S 45 33 = 60 := by rw [jr, shR_45_33 h]; rfl
theorem shR_45_34 {S : JS} (h : jSh S) : jR S 45 34 = some 61 := h.2.2 (45, 34, 61) (by decide)
theorem shr_45_34 {S : JS} (h : jSh S) : jr S 45 34 = 61 := by rw [jr, shR_45_34 h]; rfl
theorem shR_45_35 {S : JS} (h : jSh S) : jR S 45 35 = some 62 := h.2.2 (45, 35, 62) (by decide)
theorem shr_45_35 {S : JS} (h : jSh S) : jr S 45 35 = 62 := by rw [jr, shR_45_35 h]; rfl
theorem shR_45_36 {S : JS} (h : jSh S) : jR S 45 36 = some 63 := h.2.2 (45, 36, 63) (by decide)
theorem shr_45_36 {S : JS} (h : jSh S) : jr S 45 36 = 63 := by rw [jr, shR_45_36 h]; rfl
theorem shR_45_37 {S : JS} (h : jSh S) : jR S 45 37 = some 64 := h.2.2 (45, 37, 64) (by decide)
theorem shr_45_37 {S : JS} (h : jSh S) : jr S 45 37 = 64 := by rw [jr, shR_45_37 h]; rfl
theorem shR_45_38 {S : JS} (h : jSh S) : jR S 45 38 = some 65 := h.2.2 (45, 38, 65) (by decide)
theorem shr_45_38 {S : JS} (h : jSh S) : jr S 45 38 = 65 := by rw [jr, shR_45_38 h]; rfl
theorem shR_45_39 {S : JS} (h : jSh S) : jR S 45 39 = some 66 := h.2.2 (45, 39, 66) (by decide)
theorem shr_45_39 {S : JS} (h : jSh S) : jr S 45 39 = 66 := by rw [jr, shR_45_39 h]; rfl
theorem shR_45_40 {S : JS} (h : jSh S) : jR S 45 40 = some 67 := h.2.2 (45, 40, 67) (by decide)
theorem shr_45_40 {S : JS} (h : jSh S) : jr S 45 40 = 67 := by rw [jr, shR_45_40 h]; rfl
theorem shR_45_42 {S : JS} (h : jSh S) : jR S 45 42 = some 68 := h.2.2 (45, 42, 68) (by decide)
theorem shr_45_42 {S : JS} (h : jSh S) : jr S 45 42 = 68 := by rw [jr, shR_45_42 h]; rfl
theorem vpin_2 {x : Int32} : vp_in x 2 ↔ 0 ≤ x ∧ x < 2 := vpin_of (by decide) (by decide)
theorem vpin_3 {x : Int32} : vp_in x 3 ↔ 0 ≤ x ∧ x < 3 := vpin_of (by decide) (by decide)
theorem vpin_4 {x : Int32} : vp_in x 4 ↔ 0 ≤ x ∧ x < 4 := vpin_of (by decide) (by decide)
theorem vpin_5 {x : Int32} : vp_in x 5 ↔ 0 ≤ x ∧ x < 5 := vpin_of (by decide) (by decide)
theorem vpin_6 {x : Int32} : vp_in x 6 ↔ 0 ≤ x ∧ x < 6 := vpin_of (by decide) (by decide)
theorem vpin_7 {x : Int32} : vp_in x 7 ↔ 0 ≤ x ∧ x < 7 := vpin_of (by decide) (by decide)
theorem vpin_9 {x : Int32} : vp_in x 9 ↔ 0 ≤ x ∧ x < 9 := vpin_of (by decide) (by decide)
theorem vpin_12 {x : Int32} : vp_in x 12 ↔ 0 ≤ x ∧ x < 12 := vpin_of (by decide) (by decide)
theorem vpin_13 {x : Int32} : vp_in x 13 ↔ 0 ≤ x ∧ x < 13 := vpin_of (by decide) (by decide)
theorem vpin_16 {x : Int32} : vp_in x 16 ↔ 0 ≤ x ∧ x < 16 := vpin_of (by decide) (by decide)
theorem vpin_32 {x : Int32} : vp_in x 32 ↔ 0 ≤ x ∧ x < 32 := vpin_of (by decide) (by decide)
theorem vpin_60 {x : Int32} : vp_in x 60 ↔ 0 ≤ x ∧ x < 60 := vpin_of (by decide) (by decide)
theorem vpin_96 {x : Int32} : vp_in x 96 ↔ 0 ≤ x ∧ x < 96 := vpin_of (by decide) (by decide)
theorem vpin_400 {x : Int32} : vp_in x 400 ↔ 0 ≤ x ∧ x < 400 := vpin_of (by decide) (by decide)
theorem vpin_401 {x : Int32} : vp_in x 401 ↔ 0 ≤ x ∧ x < 401 := vpin_of (by decide) (by decide)
theorem vpin_540 {x : Int32} : vp_in x 540 ↔ 0 ≤ x ∧ x < 540 := vpin_of (by decide) (by decide)
theorem vpin_4320 {x : Int32} : vp_in x 4320 ↔ 0 ≤ x ∧ x < 4320 := vpin_of (by decide) (by decide)
theorem vpin_4608 {x : Int32} : vp_in x 4608 ↔ 0 ≤ x ∧ x < 4608 := vpin_of (by decide) (by decide)
theorem vpin_5600 {x : Int32} : vp_in x 5600 ↔ 0 ≤ x ∧ x < 5600 := vpin_of (by decide) (by decide)
theorem vpin_11200 {x : Int32} : vp_in x 11200 ↔ 0 ≤ x ∧ x < 11200 := vpin_of (by decide) (by decide)
theorem vpin_276480 {x : Int32} : vp_in x 276480 ↔ 0 ≤ x ∧ x < 276480 := vpin_of (by decide) (by decide)

theorem jSh_uI {S : JS} {h i : Nat} {v : Int32} : jSh (uI S h i v) ↔ jSh S := Iff.rfl
theorem jSh_uJ {S : JS} {h i : Nat} {v : Int64} : jSh (uJ S h i v) ↔ jSh S := Iff.rfl
theorem jSh_uIf {S : JS} {h : Nat} {f : Nat → Int32} : jSh (uIf S h f) ↔ jSh S := Iff.rfl
/-- nothing made, no reference changed, ints and longs only of the handles H -/
def jFr (H : List Nat) (S S' : JS) : Prop := jN S' = jN S ∧ jK S' = jK S ∧ jZ S' = jZ S ∧ jR S' = jR S ∧ ∀ h, h ∉ H → jI S' h = jI S h ∧ jJ S' h = jJ S h
section JFR
variable {H H' : List Nat} {S S1 S2 : JS}
theorem jFr.I (f : jFr H S S1) (h : Nat) (q : h ∉ H) : jI S1 h = jI S h := (f.2.2.2.2 h q).1
theorem jFr.J (f : jFr H S S1) (h : Nat) (q : h ∉ H) : jJ S1 h = jJ S h := (f.2.2.2.2 h q).2
theorem jFr.R (f : jFr H S S1) : jR S1 = jR S := f.2.2.2.1
theorem jFr.r (f : jFr H S S1) : jr S1 = jr S := by funext a b; rw [jr, jr, f.R]
theorem jFr.Z (f : jFr H S S1) : jZ S1 = jZ S := f.2.2.1
theorem jFr.K (f : jFr H S S1) : jK S1 = jK S := f.2.1
theorem jFr.N (f : jFr H S S1) : jN S1 = jN S := f.1
theorem jFr.A (f : jFr H S S1) (h k : Nat) : jA S1 h k ↔ jA S h k := by unfold jA; rw [f.N, f.K]
theorem jFr.sh (f : jFr H S S1) : jSh S1 ↔ jSh S := by unfold jSh; rw [f.N, f.K, f.Z, f.R]
theorem jFr.refl (H : List Nat) (S : JS) : jFr H S S := ⟨rfl, rfl, rfl, rfl, fun _ _ => ⟨rfl, rfl⟩⟩
theorem jFr.mono (f : jFr H S S1) (q : ∀ h ∈ H, h ∈ H') : jFr H' S S1 := ⟨f.1, f.2.1, f.2.2.1, f.2.2.2.1, fun h hh => f.2.2.2.2 h (fun z => hh (q h z))⟩
theorem jFr.tr (f : jFr H S S1) (g : jFr H S1 S2) : jFr H S S2 := ⟨g.1.trans f.1, g.2.1.trans f.2.1, g.2.2.1.trans f.2.2.1, g.2.2.2.1.trans f.2.2.2.1, fun h hh => ⟨(g.I h hh).trans (f.I h hh), (g.J h hh).trans (f.J h hh)⟩⟩
theorem jFr.uI (f : jFr H S S1) {h i : Nat} {v : Int32} (q : h ∈ H) : jFr H S (uI S1 h i v) := f.tr ⟨rfl, rfl, rfl, rfl, fun g hg => ⟨jI_uI_ne (fun e => hg (e ▸ q)), rfl⟩⟩
theorem jFr.uJ (f : jFr H S S1) {h i : Nat} {v : Int64} (q : h ∈ H) : jFr H S (uJ S1 h i v) := f.tr ⟨rfl, rfl, rfl, rfl, fun g hg => ⟨rfl, jJ_uJ_ne (fun e => hg (e ▸ q))⟩⟩
theorem jFr.uIf (f : jFr H S S1) {h : Nat} {g : Nat → Int32} (q : h ∈ H) : jFr H S (uIf S1 h g) := f.tr ⟨rfl, rfl, rfl, rfl, fun g hg => ⟨jI_uIf_ne (fun e => hg (e ▸ q)), rfl⟩⟩
end JFR
/-- of one object: only the fields E -/
def jFk (h : Nat) (E : List Nat) (S S' : JS) : Prop := ∀ k, k ∉ E → jI S' h k = jI S h k ∧ jJ S' h k = jJ S h k
section JFK
variable {h : Nat} {E : List Nat} {S S1 S2 : JS}
theorem jFk.I (f : jFk h E S S1) (k : Nat) (q : k ∉ E) : jI S1 h k = jI S h k := (f k q).1
theorem jFk.J (f : jFk h E S S1) (k : Nat) (q : k ∉ E) : jJ S1 h k = jJ S h k := (f k q).2
theorem jFk.refl (h : Nat) (E : List Nat) (S : JS) : jFk h E S S := fun _ _ => ⟨rfl, rfl⟩
theorem jFk.tr (f : jFk h E S S1) (g : jFk h E S1 S2) : jFk h E S S2 := fun k q => ⟨(g.I k q).trans (f.I k q), (g.J k q).trans (f.J k q)⟩
theorem jFk.mono {E' : List Nat} (f : jFk h E S S1) (q : ∀ k ∈ E, k ∈ E') : jFk h E' S S1 := fun k z => f k (fun y => z (q k y))
theorem jFk.of {H : List Nat} (f : jFr H S S1) (q : h ∉ H) : jFk h E S S1 := fun k _ => ⟨by rw [f.I h q], by rw [f.J h q]⟩
theorem jFk.sI (f : jFk h E S S1) {i : Nat} {v : Int32} (q : i ∈ E) : jFk h E S (uI S1 h i v) := f.tr (fun k z => ⟨by rw [jI_uI_eq, upd_at, if_neg]; intro e; exact z (e ▸ q), rfl⟩)
theorem jFk.sJ (f : jFk h E S S1) {i : Nat} {v : Int64} (q : i ∈ E) : jFk h E S (uJ S1 h i v) := f.tr (fun k z => ⟨rfl, by rw [jJ_uJ_eq, updL_at, if_neg]; intro e; exact z (e ▸ q)⟩)
theorem jFk.oI (f : jFk h E S S1) {g i : Nat} {v : Int32} (q : h ≠ g) : jFk h E S (uI S1 g i v) := f.tr (fun k z => ⟨by rw [jI_uI_ne q], rfl⟩)
theorem jFk.oJ (f : jFk h E S S1) {g i : Nat} {v : Int64} (q : h ≠ g) : jFk h E S (uJ S1 g i v) := f.tr (fun k z => ⟨rfl, by rw [jJ_uJ_ne q]⟩)
end JFK
