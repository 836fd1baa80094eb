/-! LAW: the state behind it -/
section QLAW
variable {S S' F X N M : JS} {row row' : Nat → Int32}
theorem pW.e (q : pW S row) (c2 : jI S' 2 = jI S 2) (k3 : jI S' 3 = jI S 3) (k4 : jI S' 4 = jI S 4) (k5 : jI S' 5 = jI S 5) (e0 : row' 0 = row 0) (e5 : row' 5 = row 5) (e : ∀ k, 68 ≤ k → k < 80 → row' k = row k) : pW S' row' := by
  obtain ⟨⟨w, w1, w2, w3⟩, c3, c⟩ := q
  refine ⟨⟨w, w1, e5.trans w2, fun i hi => ?_⟩, ?_, fun i hi => ?_⟩
  · obtain ⟨r, a, b, x1, x2, x3, x4, x5, x6⟩ := w3 i hi
    exact ⟨r, a, b, by rw [gR_c e0]; exact x1, x2, x3, (e _ (by omega) (by omega)).trans x4, (e _ (by omega) (by omega)).trans x5, (e _ (by omega) (by omega)).trans x6⟩
  · rw [c2, e5]; exact c3
  · rw [e5] at hi
    have hw : i < w := by rw [w2, nI_tn (by omega)] at hi; exact hi
    rw [k3, k4, k5, e _ (by omega) (by omega), e _ (by omega) (by omega), e _ (by omega) (by omega)]
    exact c i hi
theorem pQ.e (q : pQ S row) (c2 : jI S' 6 = jI S 6) (k3 : jI S' 7 = jI S 7) (k4 : jI S' 8 = jI S 8) (k5 : jI S' 9 = jI S 9) (e0 : row' 0 = row 0) (e5 : row' 6 = row 6) (e : ∀ k, 140 ≤ k → k < 188 → row' k = row k) : pQ S' row' := by
  obtain ⟨⟨w, w1, w2, w3⟩, c3, c⟩ := q
  refine ⟨⟨w, w1, e5.trans w2, fun i hi => ?_⟩, ?_, fun i hi => ?_⟩
  · obtain ⟨r, a, b, x1, x2, x3, x4, x5, x6⟩ := w3 i hi
    exact ⟨r, a, b, by rw [gR_c e0]; exact x1, x2, x3, (e _ (by omega) (by omega)).trans x4, (e _ (by omega) (by omega)).trans x5, (e _ (by omega) (by omega)).trans x6⟩
  · rw [c2, e5]; exact c3
  · rw [e5] at hi
    have hw : i < w := by rw [w2, nI_tn (by omega)] at hi; exact hi
    rw [k3, k4, k5, e _ (by omega) (by omega), e _ (by omega) (by omega), e _ (by omega) (by omega)]
    exact c i hi
/-- refused, both told -/
theorem ref_fin {why : Int32} (i j : Nat) (hw : rfP why i j) (hI : Inv S) (fX : jFr [0, 14, 16, 17, 18, 19, 20, 21, 22] S X) (kX : jFk 0 [11] S X) (x1 : jI X 14 1 = 0) (fN : jFr [45, 51, 52, 53, 54, 55] (uI (uI X 0 12 why) 44 i (jI X 44 i + 1)) N) (kN : jFk 45 [0, 8, 9, 10, 11, 12, 13, 14, 15, 17, 20, 23, 24] (uI (uI X 0 12 why) 44 i (jI X 44 i + 1)) N) (n8 : jI N 45 8 = 0) (hf : jI X 0 11 = jI N 45 13) : Inv (uI (uI N 45 1 why) 46 j (jI N 46 j + 1)) := by
  have e0 : jI N 0 = upd (jI X 0) 12 why := by rw [fN.I 0 (by decide)]; simp only [jN_uI, jN_uJ, jN_uR, jK_uI, jK_uJ, jK_uR, jZ_uI, jZ_uJ, jZ_uR, jR_uI, jR_uJ, jr_uI, jr_uJ, jI_uJ, jI_uR, jJ_uI, jJ_uR, jI_uI_eq, jI_uI_ne, jJ_uJ_eq, jJ_uJ_ne, jSh_uI, jSh_uJ, jA_uI, jA_uJ, jA_uR, jI_uIf_eq, jI_uIf_ne, jJ_uIf, jR_uIf, jr_uIf, jZ_uIf, jSh_uIf, jA_uIf, ne_eq, not_false_eq_true, not_true_eq_false, reduceCtorEq, Nat.reduceEqDiff, forall_eq, true_and, and_true, true_implies, forall_const, implies_true, List.mem_cons, List.not_mem_nil, or_false, false_or, or_self, if_true, if_false, reduceIte, Nat.reduceAdd, Nat.reduceMul, Nat.reduceLT, false_implies, Decidable.not_not, bI_eq0, bI_eq1, upd_at, updL_at, Nat.succ_ne_zero, Int32.reduceToNatClampNeg, eq_self, i01, i10]
  have e44 : jI N 44 = upd (jI S 44) i (jI S 44 i + 1) := by
    rw [fN.I 44 (by decide)]; simp only [jN_uI, jN_uJ, jN_uR, jK_uI, jK_uJ, jK_uR, jZ_uI, jZ_uJ, jZ_uR, jR_uI, jR_uJ, jr_uI, jr_uJ, jI_uJ, jI_uR, jJ_uI, jJ_uR, jI_uI_eq, jI_uI_ne, jJ_uJ_eq, jJ_uJ_ne, jSh_uI, jSh_uJ, jA_uI, jA_uJ, jA_uR, jI_uIf_eq, jI_uIf_ne, jJ_uIf, jR_uIf, jr_uIf, jZ_uIf, jSh_uIf, jA_uIf, ne_eq, not_false_eq_true, not_true_eq_false, reduceCtorEq, Nat.reduceEqDiff, forall_eq, true_and, and_true, true_implies, forall_const, implies_true, List.mem_cons, List.not_mem_nil, or_false, false_or, or_self, if_true, if_false, reduceIte, Nat.reduceAdd, Nat.reduceMul, Nat.reduceLT, false_implies, Decidable.not_not, bI_eq0, bI_eq1, upd_at, updL_at, Nat.succ_ne_zero, Int32.reduceToNatClampNeg, eq_self, i01, i10]; rw [fX.I 44 (by decide)]
  have e46 : jI N 46 = jI S 46 := by
    rw [fN.I 46 (by decide)]; simp only [jN_uI, jN_uJ, jN_uR, jK_uI, jK_uJ, jK_uR, jZ_uI, jZ_uJ, jZ_uR, jR_uI, jR_uJ, jr_uI, jr_uJ, jI_uJ, jI_uR, jJ_uI, jJ_uR, jI_uI_eq, jI_uI_ne, jJ_uJ_eq, jJ_uJ_ne, jSh_uI, jSh_uJ, jA_uI, jA_uJ, jA_uR, jI_uIf_eq, jI_uIf_ne, jJ_uIf, jR_uIf, jr_uIf, jZ_uIf, jSh_uIf, jA_uIf, ne_eq, not_false_eq_true, not_true_eq_false, reduceCtorEq, Nat.reduceEqDiff, forall_eq, true_and, and_true, true_implies, forall_const, implies_true, List.mem_cons, List.not_mem_nil, or_false, false_or, or_self, if_true, if_false, reduceIte, Nat.reduceAdd, Nat.reduceMul, Nat.reduceLT, false_implies, Decidable.not_not, bI_eq0, bI_eq1, upd_at, updL_at, Nat.succ_ne_zero, Int32.reduceToNatClampNeg, eq_self, i01, i10]; exact fX.I 46 (by decide)
  have e45 : ∀ k, k ∉ [0, 8, 9, 10, 11, 12, 13, 14, 15, 17, 20, 23, 24] → jI N 45 k = jI S 45 k := fun k hk => by
    rw [kN.I k hk]; simp only [jN_uI, jN_uJ, jN_uR, jK_uI, jK_uJ, jK_uR, jZ_uI, jZ_uJ, jZ_uR, jR_uI, jR_uJ, jr_uI, jr_uJ, jI_uJ, jI_uR, jJ_uI, jJ_uR, jI_uI_eq, jI_uI_ne, jJ_uJ_eq, jJ_uJ_ne, jSh_uI, jSh_uJ, jA_uI, jA_uJ, jA_uR, jI_uIf_eq, jI_uIf_ne, jJ_uIf, jR_uIf, jr_uIf, jZ_uIf, jSh_uIf, jA_uIf, ne_eq, not_false_eq_true, not_true_eq_false, reduceCtorEq, Nat.reduceEqDiff, forall_eq, true_and, and_true, true_implies, forall_const, implies_true, List.mem_cons, List.not_mem_nil, or_false, false_or, or_self, if_true, if_false, reduceIte, Nat.reduceAdd, Nat.reduceMul, Nat.reduceLT, false_implies, Decidable.not_not, bI_eq0, bI_eq1, upd_at, updL_at, Nat.succ_ne_zero, Int32.reduceToNatClampNeg, eq_self, i01, i10]; rw [fX.I 45 (by decide)]
  have f1 : jFr [0, 14, 16, 17, 18, 19, 20, 21, 22, 44, 45, 46, 51, 52, 53, 54, 55] S (uI (uI X 0 12 why) 44 i (jI X 44 i + 1)) := ((fX.mono (by decide)).uI (by decide)).uI (by decide)
  have f2 := ((f1.tr (fN.mono (by decide))).uI (h := 45) (i := 1) (v := why) (by decide)).uI (h := 46) (i := j) (v := jI N 46 j + 1) (by decide)
  have e14 : jI N 14 1 = 0 := by rw [fN.I 14 (by decide)]; simp only [jN_uI, jN_uJ, jN_uR, jK_uI, jK_uJ, jK_uR, jZ_uI, jZ_uJ, jZ_uR, jR_uI, jR_uJ, jr_uI, jr_uJ, jI_uJ, jI_uR, jJ_uI, jJ_uR, jI_uI_eq, jI_uI_ne, jJ_uJ_eq, jJ_uJ_ne, jSh_uI, jSh_uJ, jA_uI, jA_uJ, jA_uR, jI_uIf_eq, jI_uIf_ne, jJ_uIf, jR_uIf, jr_uIf, jZ_uIf, jSh_uIf, jA_uIf, ne_eq, not_false_eq_true, not_true_eq_false, reduceCtorEq, Nat.reduceEqDiff, forall_eq, true_and, and_true, true_implies, forall_const, implies_true, List.mem_cons, List.not_mem_nil, or_false, false_or, or_self, if_true, if_false, reduceIte, Nat.reduceAdd, Nat.reduceMul, Nat.reduceLT, false_implies, Decidable.not_not, bI_eq0, bI_eq1, upd_at, updL_at, Nat.succ_ne_zero, Int32.reduceToNatClampNeg, eq_self, i01, i10]; exact x1
  have rf := hI.2.2.2.2.2.1.1
  have sf := hI.2.2.2.2.2.2.1
  refine hI.refG f2 ?_ ⟨0, by omega, ?_, ?_, fun i hi => by omega⟩ ⟨?_, ?_⟩ ⟨?_, ?_⟩ ?_
  · simp only [jN_uI, jN_uJ, jN_uR, jK_uI, jK_uJ, jK_uR, jZ_uI, jZ_uJ, jZ_uR, jR_uI, jR_uJ, jr_uI, jr_uJ, jI_uJ, jI_uR, jJ_uI, jJ_uR, jI_uI_eq, jI_uI_ne, jJ_uJ_eq, jJ_uJ_ne, jSh_uI, jSh_uJ, jA_uI, jA_uJ, jA_uR, jI_uIf_eq, jI_uIf_ne, jJ_uIf, jR_uIf, jr_uIf, jZ_uIf, jSh_uIf, jA_uIf, ne_eq, not_false_eq_true, not_true_eq_false, reduceCtorEq, Nat.reduceEqDiff, forall_eq, true_and, and_true, true_implies, forall_const, implies_true, List.mem_cons, List.not_mem_nil, or_false, false_or, or_self, if_true, if_false, reduceIte, Nat.reduceAdd, Nat.reduceMul, Nat.reduceLT, false_implies, Decidable.not_not, bI_eq0, bI_eq1, upd_at, updL_at, Nat.succ_ne_zero, Int32.reduceToNatClampNeg, eq_self, i01, i10]; rw [e0, upd_at, if_neg (by omega), kX.I 13 (by decide)]
  · simp only [jN_uI, jN_uJ, jN_uR, jK_uI, jK_uJ, jK_uR, jZ_uI, jZ_uJ, jZ_uR, jR_uI, jR_uJ, jr_uI, jr_uJ, jI_uJ, jI_uR, jJ_uI, jJ_uR, jI_uI_eq, jI_uI_ne, jJ_uJ_eq, jJ_uJ_ne, jSh_uI, jSh_uJ, jA_uI, jA_uJ, jA_uR, jI_uIf_eq, jI_uIf_ne, jJ_uIf, jR_uIf, jr_uIf, jZ_uIf, jSh_uIf, jA_uIf, ne_eq, not_false_eq_true, not_true_eq_false, reduceCtorEq, Nat.reduceEqDiff, forall_eq, true_and, and_true, true_implies, forall_const, implies_true, List.mem_cons, List.not_mem_nil, or_false, false_or, or_self, if_true, if_false, reduceIte, Nat.reduceAdd, Nat.reduceMul, Nat.reduceLT, false_implies, Decidable.not_not, bI_eq0, bI_eq1, upd_at, updL_at, Nat.succ_ne_zero, Int32.reduceToNatClampNeg, eq_self, i01, i10]; rw [e14]; rfl
  · simp only [jN_uI, jN_uJ, jN_uR, jK_uI, jK_uJ, jK_uR, jZ_uI, jZ_uJ, jZ_uR, jR_uI, jR_uJ, jr_uI, jr_uJ, jI_uJ, jI_uR, jJ_uI, jJ_uR, jI_uI_eq, jI_uI_ne, jJ_uJ_eq, jJ_uJ_ne, jSh_uI, jSh_uJ, jA_uI, jA_uJ, jA_uR, jI_uIf_eq, jI_uIf_ne, jJ_uIf, jR_uIf, jr_uIf, jZ_uIf, jSh_uIf, jA_uIf, ne_eq, not_false_eq_true, not_true_eq_false, reduceCtorEq, Nat.reduceEqDiff, forall_eq, true_and, and_true, true_implies, forall_const, implies_true, List.mem_cons, List.not_mem_nil, or_false, false_or, or_self, if_true, if_false, reduceIte, Nat.reduceAdd, Nat.reduceMul, Nat.reduceLT, false_implies, Decidable.not_not, bI_eq0, bI_eq1, upd_at, updL_at, Nat.succ_ne_zero, Int32.reduceToNatClampNeg, eq_self, i01, i10]; rw [n8]; rfl
  · simp only [jN_uI, jN_uJ, jN_uR, jK_uI, jK_uJ, jK_uR, jZ_uI, jZ_uJ, jZ_uR, jR_uI, jR_uJ, jr_uI, jr_uJ, jI_uJ, jI_uR, jJ_uI, jJ_uR, jI_uI_eq, jI_uI_ne, jJ_uJ_eq, jJ_uJ_ne, jSh_uI, jSh_uJ, jA_uI, jA_uJ, jA_uR, jI_uIf_eq, jI_uIf_ne, jJ_uIf, jR_uIf, jr_uIf, jZ_uIf, jSh_uIf, jA_uIf, ne_eq, not_false_eq_true, not_true_eq_false, reduceCtorEq, Nat.reduceEqDiff, forall_eq, true_and, and_true, true_implies, forall_const, implies_true, List.mem_cons, List.not_mem_nil, or_false, false_or, or_self, if_true, if_false, reduceIte, Nat.reduceAdd, Nat.reduceMul, Nat.reduceLT, false_implies, Decidable.not_not, bI_eq0, bI_eq1, upd_at, updL_at, Nat.succ_ne_zero, Int32.reduceToNatClampNeg, eq_self, i01, i10]
    rw [e44, e46]
    obtain ⟨a1, a2, a3, a4, a5⟩ := rf
    rcases hw with ⟨_, b, d⟩ | ⟨_, b, d⟩ | ⟨_, b, d⟩ | ⟨_, b, d⟩ | ⟨_, b, d⟩ <;> subst b d <;> simp only [ne_eq, not_false_eq_true, not_true_eq_false, reduceCtorEq, Nat.reduceEqDiff, forall_eq, true_and, and_true, true_implies, forall_const, implies_true, List.mem_cons, List.not_mem_nil, or_false, false_or, or_self, if_true, if_false, reduceIte, Nat.reduceAdd, Nat.reduceMul, Nat.reduceLT, false_implies, Decidable.not_not, bI_eq0, bI_eq1, upd_at, updL_at, Nat.succ_ne_zero, Int32.reduceToNatClampNeg, eq_self, i01, i10, a1, a2, a3, a4, a5]
  · simp only [jN_uI, jN_uJ, jN_uR, jK_uI, jK_uJ, jK_uR, jZ_uI, jZ_uJ, jZ_uR, jR_uI, jR_uJ, jr_uI, jr_uJ, jI_uJ, jI_uR, jJ_uI, jJ_uR, jI_uI_eq, jI_uI_ne, jJ_uJ_eq, jJ_uJ_ne, jSh_uI, jSh_uJ, jA_uI, jA_uJ, jA_uR, jI_uIf_eq, jI_uIf_ne, jJ_uIf, jR_uIf, jr_uIf, jZ_uIf, jSh_uIf, jA_uIf, ne_eq, not_false_eq_true, not_true_eq_false, reduceCtorEq, Nat.reduceEqDiff, forall_eq, true_and, and_true, true_implies, forall_const, implies_true, List.mem_cons, List.not_mem_nil, or_false, false_or, or_self, if_true, if_false, reduceIte, Nat.reduceAdd, Nat.reduceMul, Nat.reduceLT, false_implies, Decidable.not_not, bI_eq0, bI_eq1, upd_at, updL_at, Nat.succ_ne_zero, Int32.reduceToNatClampNeg, eq_self, i01, i10]; rw [e0, upd_at, if_pos rfl]
  · simp only [jN_uI, jN_uJ, jN_uR, jK_uI, jK_uJ, jK_uR, jZ_uI, jZ_uJ, jZ_uR, jR_uI, jR_uJ, jr_uI, jr_uJ, jI_uJ, jI_uR, jJ_uI, jJ_uR, jI_uI_eq, jI_uI_ne, jJ_uJ_eq, jJ_uJ_ne, jSh_uI, jSh_uJ, jA_uI, jA_uJ, jA_uR, jI_uIf_eq, jI_uIf_ne, jJ_uIf, jR_uIf, jr_uIf, jZ_uIf, jSh_uIf, jA_uIf, ne_eq, not_false_eq_true, not_true_eq_false, reduceCtorEq, Nat.reduceEqDiff, forall_eq, true_and, and_true, true_implies, forall_const, implies_true, List.mem_cons, List.not_mem_nil, or_false, false_or, or_self, if_true, if_false, reduceIte, Nat.reduceAdd, Nat.reduceMul, Nat.reduceLT, false_implies, Decidable.not_not, bI_eq0, bI_eq1, upd_at, updL_at, Nat.succ_ne_zero, Int32.reduceToNatClampNeg, eq_self, i01, i10]; rw [e0, upd_at, if_neg (by omega), kX.I 10 (by decide), e45 6 (by decide)]; exact sf.1
  · simp only [jN_uI, jN_uJ, jN_uR, jK_uI, jK_uJ, jK_uR, jZ_uI, jZ_uJ, jZ_uR, jR_uI, jR_uJ, jr_uI, jr_uJ, jI_uJ, jI_uR, jJ_uI, jJ_uR, jI_uI_eq, jI_uI_ne, jJ_uJ_eq, jJ_uJ_ne, jSh_uI, jSh_uJ, jA_uI, jA_uJ, jA_uR, jI_uIf_eq, jI_uIf_ne, jJ_uIf, jR_uIf, jr_uIf, jZ_uIf, jSh_uIf, jA_uIf, ne_eq, not_false_eq_true, not_true_eq_false, reduceCtorEq, Nat.reduceEqDiff, forall_eq, true_and, and_true, true_implies, forall_const, implies_true, List.mem_cons, List.not_mem_nil, or_false, false_or, or_self, if_true, if_false, reduceIte, Nat.reduceAdd, Nat.reduceMul, Nat.reduceLT, false_implies, Decidable.not_not, bI_eq0, bI_eq1, upd_at, updL_at, Nat.succ_ne_zero, Int32.reduceToNatClampNeg, eq_self, i01, i10]; rw [e0, upd_at, if_neg (by omega)]; exact hf
  · simp only [jN_uI, jN_uJ, jN_uR, jK_uI, jK_uJ, jK_uR, jZ_uI, jZ_uJ, jZ_uR, jR_uI, jR_uJ, jr_uI, jr_uJ, jI_uJ, jI_uR, jJ_uI, jJ_uR, jI_uI_eq, jI_uI_ne, jJ_uJ_eq, jJ_uJ_ne, jSh_uI, jSh_uJ, jA_uI, jA_uJ, jA_uR, jI_uIf_eq, jI_uIf_ne, jJ_uIf, jR_uIf, jr_uIf, jZ_uIf, jSh_uIf, jA_uIf, ne_eq, not_false_eq_true, not_true_eq_false, reduceCtorEq, Nat.reduceEqDiff, forall_eq, true_and, and_true, true_implies, forall_const, implies_true, List.mem_cons, List.not_mem_nil, or_false, false_or, or_self, if_true, if_false, reduceIte, Nat.reduceAdd, Nat.reduceMul, Nat.reduceLT, false_implies, Decidable.not_not, bI_eq0, bI_eq1, upd_at, updL_at, Nat.succ_ne_zero, Int32.reduceToNatClampNeg, eq_self, i01, i10]; rw [e45 43 (by decide)]
def Pc (x : Nat) : Prop := x = 0 ∨ x = 1 ∨ (14 ≤ x ∧ x ≤ 22 ∧ x ≠ 15) ∨ x = 45 ∨ x = 47 ∨ (51 ≤ x ∧ x ≤ 55)
/-- kept: the laws are one more -/
theorem acc_fin {l g : Nat} (hI : Inv S) (hl : l < 6) (h3 : jI S 47 3 = nI l) (x : jEx Pc (fun y => y = 10) S F) (hg : g = jN S) (hN : jN F = jN S + 6) (k1 : jFk 1 [7] S F) (l7 : jI F 1 7 = nI (l + 1)) (r3 : jI F 47 3 = nI (l + 1)) (er : ∀ k, k ≠ 3 → (k < 200 + 900 * l + 1 ∨ 200 + 900 * l + 900 ≤ k) → jI F 47 k = jI S 47 k) (rl : jR F 10 l = some g) (ro : ∀ i, i ≠ l → jR F 10 i = jR S 10 i) (hLB : LawB F g) (hLR : LawR F g (jI F 47) (200 + 900 * l)) (hT : TP F) (hF : SF F) (e43 : jI F 45 43 = jI S 45 43) (e13 : jI F 0 13 = 0) (e12 : jI F 0 12 = 0) (e1 : jI F 45 1 = 0) (hk : ∀ i, i < 6 → jK F (g + i) ≠ 16 ) : Inv F := by
  have hs := hI.1
  have hN69 := hs.1
  have hG := hI.2.2.2.2.2.2.2.2.2.2
  obtain ⟨q1, q2, q3, q4, q5, q6, q7, q8, q9⟩ := MW_iff.mp hI.2.1
  obtain ⟨⟨l0, l6, e3, e4⟩, a7, a8, hlaws⟩ := id q4
  have el : l0 = l := by
    rw [h3] at e3; exact ((nI_eq' (by omega) (by omega)).mp e3).symm
  subst el
  rw [h3, nI_tn (by omega)] at hlaws
  have hx : ∀ y, y < 69 → ¬ Pc y → jI F y = jI S y := fun y y1 y2 => x.I (by omega) y2
  have hlaw : ∀ i h, jR S 10 i = some h → 69 ≤ h ∧ LawB S h := fun i h e => hG 10 i h (by omega) (shA_10 hs).2 e
  have old : ∀ i, i < l0 → ∃ h, jR F 10 i = some h ∧ LawR F h (jI F 47) (200 + 900 * i) := by
    intro i hi
    obtain ⟨h, h1, h2⟩ := hlaws i hi
    obtain ⟨b1, b2⟩ := hlaw i h h1
    refine ⟨h, by rw [ro i (by omega)]; exact h1, ?_⟩
    have := h2.ex x b2 (by omega) (fun j hj z => by unfold Pc at z; omega)
    refine this.row (fun k k1 k2 => er k (by omega) (by omega))
  have er2 : ∀ k, k < 200 → k ≠ 3 → jI F 47 k = jI S 47 k := fun k k1 k2 => er k k2 (by omega)
  have hM : MW F := by
    refine MW_iff.mpr ⟨q1.c (er2 0 (by omega) (by omega)) (k1.I 0 (by decide)), q2.c (er2 1 (by omega) (by omega)) (k1.I 1 (by decide)), q3.c (er2 2 (by omega) (by omega)) (k1.I 2 (by decide)), ⟨⟨l0 + 1, by omega, r3, ?_⟩, by rw [r3]; exact l7, by rw [k1.I 8 (by decide), er2 4 (by omega) (by omega)]; exact a8, fun i hi => ?_⟩, q5.e (hx 2 (by omega) (by unfold Pc; omega)) (hx 3 (by omega) (by unfold Pc; omega)) (hx 4 (by omega) (by unfold Pc; omega)) (hx 5 (by omega) (by unfold Pc; omega)) (er2 0 (by omega) (by omega)) (er2 5 (by omega) (by omega)) (fun k _ _ => er2 k (by omega) (by omega)), q6.e (hx 6 (by omega) (by unfold Pc; omega)) (hx 7 (by omega) (by unfold Pc; omega)) (hx 8 (by omega) (by unfold Pc; omega)) (hx 9 (by omega) (by unfold Pc; omega)) (er2 0 (by omega) (by omega)) (er2 6 (by omega) (by omega)) (fun k _ _ => er2 k (by omega) (by omega)), q7.c (er2 0 (by omega) (by omega)) (er2 7 (by omega) (by omega)) (fun k _ _ => er2 k (by omega) (by omega)) (k1.I 10 (by decide)) (hx 11 (by omega) (by unfold Pc; omega)), q8.c (fun k _ _ => er2 k (by omega) (by omega)) (k1.J 3 (by decide)), q9.c (fun k _ _ => er2 k (by omega) (by omega)) (hx 12 (by omega) (by unfold Pc; omega))⟩
    · rw [er2 4 (by omega) (by omega)]
      rcases e4 with z | ⟨j, j1, j2⟩
      · exact Or.inl z
      · exact Or.inr ⟨j, by omega, j2⟩
    · rw [r3, nI_tn (by omega)] at hi
      by_cases z : i = l0
      · rw [z]; exact ⟨g, rl, hLR⟩
      · exact old i (by omega)
  have hB : BC F := by
    refine hI.2.2.1.keep hI.2.1 (hx 27 (by omega) (by unfold Pc; omega)) (hx 28 (by omega) (by unfold Pc; omega)) (er2 0 (by omega) (by omega)) (er2 1 (by omega) (by omega)) (er2 4 (by omega) (by omega)) (er2 5 (by omega) (by omega)) (fun k _ _ => er2 k (by omega) (by omega)) (fun j ej _ k k1 k2 => er k (by omega) ?_)
    rcases e4 with z | ⟨j2, j1, j3⟩
    · rw [z] at ej; exact absurd ej.symm (by rw [show (-1 : Int32) = -nI 1 from rfl, nI_eqm1 (by omega)]; exact fun y => y)
    · rw [j3] at ej
      have := (nI_eq' (by omega) (by omega)).mp ej
      omega
  have e48 : jI F 48 = jI S 48 := hx 48 (by omega) (by unfold Pc; omega)
  have e49 : jI F 49 = jI S 49 := hx 49 (by omega) (by unfold Pc; omega)
  have r13 : jR F 13 = jR S 13 := x.R (by omega) (by omega)
  obtain ⟨im0, im1, imd⟩ := hI.2.2.2.2.2.2.2.2.2.1
  have imo : ∀ k, IMk S k → IMk F k := by
    intro k h
    unfold IMk at h ⊢
    rw [e48, e49, r13]
    rcases h with h | ⟨h1, w, h2, h4, h5, h6, h7⟩
    · exact Or.inl h
    · refine Or.inr ⟨h1, w, h2, h4, h5.ex x (fun j _ _ => by omega), h6, WRw.ex x h5 h7 (fun i h e => (hG.law hs h5 i h e).2) (fun j hj z => by unfold Pc at z; omega) (by omega) (fun i h e => ?_)⟩
      have := (hG.law hs h5 i h e).1
      exact ⟨by omega, fun j hj z => by unfold Pc at z; omega⟩
  refine Inv.ex x hI (fun h h1 z => by unfold Pc at z; omega) (fun h h1 z => Or.inl z) e43 hM hB hT hF ⟨imo 0 im0, imo 1 im1, by rw [r13]; exact imd⟩ (fun y i h hy hk16 he => ?_) e13 e12 e1
  rcases Nat.lt_or_ge y (jN S) with z | z
  · rw [x.K z] at hk16
    by_cases y10 : y = 10
    · subst y10
      by_cases il : i = l0
      · rw [il, rl] at he; cases he
        exact ⟨by omega, hLB⟩
      · rw [ro i il] at he
        obtain ⟨b1, b2⟩ := hlaw i h he
        exact ⟨b1, b2.ex x (by omega)⟩
    · rw [x.R z y10] at he
      obtain ⟨b1, b2⟩ := hG y i h z hk16 he
      exact ⟨b1, b2.ex x (by omega)⟩
  · exact absurd hk16 (by have := hk (y - g) (by omega); rw [show g + (y - g) = y by omega] at this; exact this)
end QLAW
