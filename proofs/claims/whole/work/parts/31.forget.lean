/-! BOATS: forget -/
theorem pl_nI (n r : Nat) : nI n * 9 + nI r = nI (n * 9 + r) := by
  rw [show (9 : Int32) = nI 9 from rfl, show nI n * nI 9 = nI (n * 9) from (Int32.ofNat_mul n 9).symm, nI_add]
theorem nI_mul (a b : Nat) : nI a * nI b = nI (a * b) := (Int32.ofNat_mul a b).symm
theorem nI_tn {n : Nat} (h : n < 1000000) : (nI n).toNatClampNeg = n := nI_clamp (by omega)
theorem nI_in2 {n m : Nat} (h : n < m) (hm : m < 1000000) : vp_in (nI n) m := by
  unfold vp_in; rw [nI_tn (by omega)]
  rintro (q | q)
  · exact nI_pos (by omega) q
  · omega
theorem nI_nn {n : Nat} (h : n < 1000000) : 0 ≤ nI n := nI_pos' (by omega)
theorem ex_nI {x : Int32} (h : 0 ≤ x) : ∃ n : Nat, n < 2 ^ 31 ∧ x = nI n := nI_of (by lia)
theorem nI_le' {a b : Nat} (ha : a < 1000000) (hb : b < 1000000) : nI a ≤ nI b ↔ a ≤ b := nI_leI (by omega) (by omega)
theorem nI_lt' {a b : Nat} (ha : a < 1000000) (hb : b < 1000000) : nI a < nI b ↔ a < b := nI_ltI (by omega) (by omega)
theorem nI_eq' {a b : Nat} (ha : a < 1000000) (hb : b < 1000000) : nI a = nI b ↔ a = b := nI_eq (by omega) (by omega)
/-- a sound forgetting: from S to S', nights a..b -/
def fgt (a b : Nat) (S S' : JS) : Prop := jFr [27, 28] S S' ∧ (∀ p, jI S' 27 p = -1 ∨ jI S' 27 p = jI S 27 p) ∧ (∀ p, jI S' 28 p = -1 ∨ jI S' 28 p = jI S 28 p) ∧ ∀ n r, a ≤ n → n < b → r < 9 → jI S' 27 (n * 9 + r) = -1 ∧ jI S' 28 (n * 9 + r) = -1
theorem sX1_forget {S : JS} {a b : Nat} {Q : JS → Prop} (hs : jSh S) (ha : a < 60) (hb : b < 60) (h : ∀ S', fgt a (b + 1) S S' → Q S') : wX1_forget 23 (nI a) (nI b) S Q := by
  unfold wX1_forget
  intro x hx
  unfold wX1_forget_4
  have hx : x = nI a := by
    rw [hx, show (0 : Int32) = nI 0 from rfl]
    split
    · rfl
    · rename_i q; rw [nI_lt' (by omega) (by omega)] at q; rw [show a = 0 by omega]
  subst hx
  refine jLoop.ind (fun q => ∃ n S', q = (23, nI b, nI n, S') ∧ n ≤ 60 ∧ fgt a n S S') (fun q => 61 - q.2.2.1.toNatClampNeg) ?_ ⟨a, S, rfl, by omega, ⟨jFr.refl _ _, fun _ => Or.inr rfl, fun _ => Or.inr rfl, fun m r h1 h2 => by omega⟩⟩
  rintro _ ⟨n, S1, rfl, h2, ⟨f1, i1, i2, i3⟩⟩
  unfold bX1_forget_4
  simp only
  rw [nI_lt' (by omega) (by omega), show (60 : Int32) = nI 60 from rfl, nI_le' (by omega) (by omega)]
  refine ⟨fun hc => h S1 ⟨f1, i1, i2, fun m r q1 q2 q3 => i3 m r q1 (by omega) q3⟩, fun hc => ⟨fun hd => by omega, fun hd => ?_⟩⟩
  unfold wX1_forget_12
  refine jLoop.ind (fun q => ∃ r S', q = (23, nI b, nI n, nI r, S') ∧ r ≤ 9 ∧ fgt a n S S' ∧ ∀ k, k < r → jI S' 27 (n * 9 + k) = -1 ∧ jI S' 28 (n * 9 + k) = -1) (fun q => 10 - q.2.2.2.1.toNatClampNeg) ?_ ⟨0, S1, rfl, by omega, ⟨f1, i1, i2, i3⟩, fun k hk => by omega⟩
  rintro _ ⟨r, S2, rfl, h3, ⟨f2, j1, j2, j3⟩, j4⟩
  have hs2 : jSh S2 := f2.sh.mpr hs
  unfold bX1_forget_12
  simp only
  rw [show (9 : Int32) = nI 9 from rfl, nI_le' (by omega) (by omega)]
  refine ⟨fun hc x hx => ?_, fun hc => ?_⟩
  · rw [nI_1] at hx; subst hx
    refine ⟨⟨n + 1, S2, rfl, by omega, f2, j1, j2, fun m k q1 q2 q3 => ?_⟩, ?_⟩
    · by_cases e : m = n
      · subst e; exact j4 k (by omega)
      · exact j3 m k q1 (by omega) q3
    · rw [nI_tn (by omega), nI_tn (by omega)]; omega
  · unfold wX11_placeOf
    simp only [pl_nI, shA_23 hs2, shR_23_1 hs2, shR_23_2 hs2, shr_23_1 hs2, shr_23_2 hs2, shA_27 hs2, shZ_27 hs2, shA_28 hs2, shZ_28 hs2, jN_uI, jN_uJ, jN_uR, jK_uI, jK_uJ, jK_uR, jZ_uI, jZ_uJ, jZ_uR, jR_uI, jR_uJ, jr_uI, jr_uJ, jI_uJ, jI_uR, jJ_uI, jJ_uR, jI_uI_eq, jI_uI_ne, jJ_uJ_eq, jJ_uJ_ne, jSh_uI, jSh_uJ, jA_uI, jA_uJ, jA_uR, jI_uIf_eq, jI_uIf_ne, jJ_uIf, jR_uIf, jr_uIf, jZ_uIf, jSh_uIf, jA_uIf, ne_eq, not_false_eq_true, not_true_eq_false, reduceCtorEq, Nat.reduceEqDiff, forall_eq, true_and, and_true, true_implies, forall_const, implies_true, List.mem_cons, List.not_mem_nil, or_false, false_or, or_self, if_true, if_false, reduceIte, Nat.reduceAdd, Nat.reduceMul, Nat.reduceLT, false_implies, Decidable.not_not, bI_eq0, bI_eq1, upd_at, updL_at, Nat.succ_ne_zero, Int32.reduceToNatClampNeg]
    rw [nI_tn (by omega)]
    refine ⟨nI_in2 (by omega) (by omega), nI_in2 (by omega) (by omega), ?_⟩
    rw [nI_1]
    refine ⟨⟨r + 1, _, rfl, by omega, ⟨(f2.uI (by decide)).uI (by decide), fun p => ?_, fun p => ?_, fun m k q1 q2 q3 => ?_⟩, fun k hk => ?_⟩, ?_⟩
    · simp only [jN_uI, jN_uJ, jN_uR, jK_uI, jK_uJ, jK_uR, jZ_uI, jZ_uJ, jZ_uR, jR_uI, jR_uJ, jr_uI, jr_uJ, jI_uJ, jI_uR, jJ_uI, jJ_uR, jI_uI_eq, jI_uI_ne, jJ_uJ_eq, jJ_uJ_ne, jSh_uI, jSh_uJ, jA_uI, jA_uJ, jA_uR, jI_uIf_eq, jI_uIf_ne, jJ_uIf, jR_uIf, jr_uIf, jZ_uIf, jSh_uIf, jA_uIf, ne_eq, not_false_eq_true, not_true_eq_false, reduceCtorEq, Nat.reduceEqDiff, forall_eq, true_and, and_true, true_implies, forall_const, implies_true, List.mem_cons, List.not_mem_nil, or_false, false_or, or_self, if_true, if_false, reduceIte, Nat.reduceAdd, Nat.reduceMul, Nat.reduceLT, false_implies, Decidable.not_not, bI_eq0, bI_eq1, upd_at, updL_at, Nat.succ_ne_zero, Int32.reduceToNatClampNeg]; split
      · exact Or.inl rfl
      · exact j1 p
    · simp only [jN_uI, jN_uJ, jN_uR, jK_uI, jK_uJ, jK_uR, jZ_uI, jZ_uJ, jZ_uR, jR_uI, jR_uJ, jr_uI, jr_uJ, jI_uJ, jI_uR, jJ_uI, jJ_uR, jI_uI_eq, jI_uI_ne, jJ_uJ_eq, jJ_uJ_ne, jSh_uI, jSh_uJ, jA_uI, jA_uJ, jA_uR, jI_uIf_eq, jI_uIf_ne, jJ_uIf, jR_uIf, jr_uIf, jZ_uIf, jSh_uIf, jA_uIf, ne_eq, not_false_eq_true, not_true_eq_false, reduceCtorEq, Nat.reduceEqDiff, forall_eq, true_and, and_true, true_implies, forall_const, implies_true, List.mem_cons, List.not_mem_nil, or_false, false_or, or_self, if_true, if_false, reduceIte, Nat.reduceAdd, Nat.reduceMul, Nat.reduceLT, false_implies, Decidable.not_not, bI_eq0, bI_eq1, upd_at, updL_at, Nat.succ_ne_zero, Int32.reduceToNatClampNeg]; split
      · exact Or.inl rfl
      · exact j2 p
    · simp only [jN_uI, jN_uJ, jN_uR, jK_uI, jK_uJ, jK_uR, jZ_uI, jZ_uJ, jZ_uR, jR_uI, jR_uJ, jr_uI, jr_uJ, jI_uJ, jI_uR, jJ_uI, jJ_uR, jI_uI_eq, jI_uI_ne, jJ_uJ_eq, jJ_uJ_ne, jSh_uI, jSh_uJ, jA_uI, jA_uJ, jA_uR, jI_uIf_eq, jI_uIf_ne, jJ_uIf, jR_uIf, jr_uIf, jZ_uIf, jSh_uIf, jA_uIf, ne_eq, not_false_eq_true, not_true_eq_false, reduceCtorEq, Nat.reduceEqDiff, forall_eq, true_and, and_true, true_implies, forall_const, implies_true, List.mem_cons, List.not_mem_nil, or_false, false_or, or_self, if_true, if_false, reduceIte, Nat.reduceAdd, Nat.reduceMul, Nat.reduceLT, false_implies, Decidable.not_not, bI_eq0, bI_eq1, upd_at, updL_at, Nat.succ_ne_zero, Int32.reduceToNatClampNeg]; rw [if_neg (by omega), if_neg (by omega)]; exact j3 m k q1 q2 q3
    · simp only [jN_uI, jN_uJ, jN_uR, jK_uI, jK_uJ, jK_uR, jZ_uI, jZ_uJ, jZ_uR, jR_uI, jR_uJ, jr_uI, jr_uJ, jI_uJ, jI_uR, jJ_uI, jJ_uR, jI_uI_eq, jI_uI_ne, jJ_uJ_eq, jJ_uJ_ne, jSh_uI, jSh_uJ, jA_uI, jA_uJ, jA_uR, jI_uIf_eq, jI_uIf_ne, jJ_uIf, jR_uIf, jr_uIf, jZ_uIf, jSh_uIf, jA_uIf, ne_eq, not_false_eq_true, not_true_eq_false, reduceCtorEq, Nat.reduceEqDiff, forall_eq, true_and, and_true, true_implies, forall_const, implies_true, List.mem_cons, List.not_mem_nil, or_false, false_or, or_self, if_true, if_false, reduceIte, Nat.reduceAdd, Nat.reduceMul, Nat.reduceLT, false_implies, Decidable.not_not, bI_eq0, bI_eq1, upd_at, updL_at, Nat.succ_ne_zero, Int32.reduceToNatClampNeg]
      by_cases e : k = r
      · subst e; rw [if_pos rfl, if_pos rfl]; exact ⟨rfl, rfl⟩
      · rw [if_neg (by omega), if_neg (by omega)]; exact j4 k (by omega)
    · rw [nI_tn (by omega), nI_tn (by omega)]; omega
