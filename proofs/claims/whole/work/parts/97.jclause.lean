/-! BOTH READERS AT ONCE: a clause, joined -/
section JCLAUSE
variable {t e i l n b o c q : Nat} {A B sg vl so bb : Nat → Nat} {wo : Nat → Int64} {S S' S1 S2 M M' M2 M0 : JS} {f : JF} {test : Int32}
theorem cm_43 {Q : JS → Prop} {m : Nat} (h : MC t e A B so bb wo M i l n) (h15 : jI M 45 15 = nI q) (hq : q < 12) (hm : m < 3) (hQ : ∀ M', MFc M M' n q → MC t e A B so bb wo M' i l n → jI M' 45 15 = nI (q + 1) → jI M' 51 (8 * q) = nI m → jI M' 51 (8 * q + 3) = nI n → (m = 2 → wX12_readClause_80 45 (nI (8 * q)) M' Q) ∧ (¬ m = 2 → wX12_readExpression 45 0 M' (fun S => wX12_readClause_80 45 (nI (8 * q)) S Q))) : wX12_readClause_43 45 (nI m) (nI (8 * q)) 8 M Q := by
  have hs := h.1.1
  refine zf_roll (fun K hK => ?_)
  unfold bX12_readClause_43
  refine ⟨fun _ => ?_, fun z => absurd (by decide) z⟩
  simp only [shA_45, shA_51, shZ_51, shR_45_2, shr_45_2, shR_45_3, shr_45_3, shR_45_4, shr_45_4, shR_45_5, shr_45_5, shR_45_7, shr_45_7, shR_45_16, shr_45_16, shR_45_18, shr_45_18, shR_45_19, shr_45_19, shR_45_21, shr_45_21, shR_45_22, shr_45_22, shR_45_25, shr_45_25, shR_45_26, shr_45_26, shR_45_28, shr_45_28, shR_45_29, shr_45_29, shR_45_33, shr_45_33, shR_45_34, shr_45_34, shR_45_35, shr_45_35, shR_45_36, shr_45_36, shR_45_37, shr_45_37, shR_45_38, shr_45_38, shR_45_39, shr_45_39, shR_45_40, shr_45_40, shR_45_42, shr_45_42, hs, h15, jN_uI, jN_uJ, jN_uR, jK_uI, jK_uJ, jK_uR, jZ_uI, jZ_uJ, jZ_uR, jR_uI, jR_uJ, jr_uI, jr_uJ, jI_uJ, jI_uR, jJ_uI, jJ_uR, jI_uI_eq, jI_uI_ne, jJ_uJ_eq, jJ_uJ_ne, jSh_uI, jSh_uJ, jA_uI, jA_uJ, jA_uR, jI_uIf_eq, jI_uIf_ne, jJ_uIf, jR_uIf, jr_uIf, jZ_uIf, jSh_uIf, jA_uIf, ne_eq, not_false_eq_true, not_true_eq_false, reduceCtorEq, Nat.reduceEqDiff, forall_eq, true_and, and_true, true_implies, forall_const, implies_true, List.mem_cons, List.not_mem_nil, or_false, false_or, or_self, if_true, if_false, reduceIte, Nat.reduceAdd, Nat.reduceMul, Nat.reduceLT, false_implies, Decidable.not_not, bI_eq0, bI_eq1, upd_at, updL_at, Nat.succ_ne_zero, Int32.reduceToNatClampNeg, eq_self, i01, i10]
  rw [nI_tn (by omega), li_3, nI_add, nI_tn (by omega), nI_1, h.2.2.1.2.1, li_2, nI_eq' (by omega) (by omega)]
  have f3 : jFr [45, 51] M (uI (uI (uI M 51 (8 * q) (nI m)) 45 15 (nI (q + 1))) 51 (8 * q + 3) (nI n)) := (((jFr.refl _ _).uI (by decide)).uI (by decide)).uI (by decide)
  have k3 : jFk 45 [15] M (uI (uI (uI M 51 (8 * q) (nI m)) 45 15 (nI (q + 1))) 51 (8 * q + 3) (nI n)) := (((jFk.refl _ _ _).oI (by decide)).sI (by decide)).oI (by decide)
  have r := hQ _ ⟨f3.mono (by decide), k3.mono (by decide), fun k hk => by rw [f3.I 52 (by decide), f3.I 53 (by decide)]; exact ⟨rfl, rfl⟩, fun k hk => by simp only [jN_uI, jN_uJ, jN_uR, jK_uI, jK_uJ, jK_uR, jZ_uI, jZ_uJ, jZ_uR, jR_uI, jR_uJ, jr_uI, jr_uJ, jI_uJ, jI_uR, jJ_uI, jJ_uR, jI_uI_eq, jI_uI_ne, jJ_uJ_eq, jJ_uJ_ne, jSh_uI, jSh_uJ, jA_uI, jA_uJ, jA_uR, jI_uIf_eq, jI_uIf_ne, jJ_uIf, jR_uIf, jr_uIf, jZ_uIf, jSh_uIf, jA_uIf, ne_eq, not_false_eq_true, not_true_eq_false, reduceCtorEq, Nat.reduceEqDiff, forall_eq, true_and, and_true, true_implies, forall_const, implies_true, List.mem_cons, List.not_mem_nil, or_false, false_or, or_self, if_true, if_false, reduceIte, Nat.reduceAdd, Nat.reduceMul, Nat.reduceLT, false_implies, Decidable.not_not, bI_eq0, bI_eq1, upd_at, updL_at, Nat.succ_ne_zero, Int32.reduceToNatClampNeg, eq_self, i01, i10]; rw [if_neg (by omega), if_neg (by omega)]⟩ (h.fr f3 k3) (by simp only [jN_uI, jN_uJ, jN_uR, jK_uI, jK_uJ, jK_uR, jZ_uI, jZ_uJ, jZ_uR, jR_uI, jR_uJ, jr_uI, jr_uJ, jI_uJ, jI_uR, jJ_uI, jJ_uR, jI_uI_eq, jI_uI_ne, jJ_uJ_eq, jJ_uJ_ne, jSh_uI, jSh_uJ, jA_uI, jA_uJ, jA_uR, jI_uIf_eq, jI_uIf_ne, jJ_uIf, jR_uIf, jr_uIf, jZ_uIf, jSh_uIf, jA_uIf, ne_eq, not_false_eq_true, not_true_eq_false, reduceCtorEq, Nat.reduceEqDiff, forall_eq, true_and, and_true, true_implies, forall_const, implies_true, List.mem_cons, List.not_mem_nil, or_false, false_or, or_self, if_true, if_false, reduceIte, Nat.reduceAdd, Nat.reduceMul, Nat.reduceLT, false_implies, Decidable.not_not, bI_eq0, bI_eq1, upd_at, updL_at, Nat.succ_ne_zero, Int32.reduceToNatClampNeg, eq_self, i01, i10]) (by simp only [jN_uI, jN_uJ, jN_uR, jK_uI, jK_uJ, jK_uR, jZ_uI, jZ_uJ, jZ_uR, jR_uI, jR_uJ, jr_uI, jr_uJ, jI_uJ, jI_uR, jJ_uI, jJ_uR, jI_uI_eq, jI_uI_ne, jJ_uJ_eq, jJ_uJ_ne, jSh_uI, jSh_uJ, jA_uI, jA_uJ, jA_uR, jI_uIf_eq, jI_uIf_ne, jJ_uIf, jR_uIf, jr_uIf, jZ_uIf, jSh_uIf, jA_uIf, ne_eq, not_false_eq_true, not_true_eq_false, reduceCtorEq, Nat.reduceEqDiff, forall_eq, true_and, and_true, true_implies, forall_const, implies_true, List.mem_cons, List.not_mem_nil, or_false, false_or, or_self, if_true, if_false, reduceIte, Nat.reduceAdd, Nat.reduceMul, Nat.reduceLT, false_implies, Decidable.not_not, bI_eq0, bI_eq1, upd_at, updL_at, Nat.succ_ne_zero, Int32.reduceToNatClampNeg, eq_self, i01, i10]; rw [if_neg (by omega)]) (by simp only [jN_uI, jN_uJ, jN_uR, jK_uI, jK_uJ, jK_uR, jZ_uI, jZ_uJ, jZ_uR, jR_uI, jR_uJ, jr_uI, jr_uJ, jI_uJ, jI_uR, jJ_uI, jJ_uR, jI_uI_eq, jI_uI_ne, jJ_uJ_eq, jJ_uJ_ne, jSh_uI, jSh_uJ, jA_uI, jA_uJ, jA_uR, jI_uIf_eq, jI_uIf_ne, jJ_uIf, jR_uIf, jr_uIf, jZ_uIf, jSh_uIf, jA_uIf, ne_eq, not_false_eq_true, not_true_eq_false, reduceCtorEq, Nat.reduceEqDiff, forall_eq, true_and, and_true, true_implies, forall_const, implies_true, List.mem_cons, List.not_mem_nil, or_false, false_or, or_self, if_true, if_false, reduceIte, Nat.reduceAdd, Nat.reduceMul, Nat.reduceLT, false_implies, Decidable.not_not, bI_eq0, bI_eq1, upd_at, updL_at, Nat.succ_ne_zero, Int32.reduceToNatClampNeg, eq_self, i01, i10])
  exact ⟨nI_in2 (by omega) (by omega), nI_in2 (by omega) (by omega), r⟩
theorem cm_108 {Q : JS → Prop} (hs : jSh M) (hq : q < 12) (hQ : ∀ M', jFr [51] M M' → (∀ k, k < 8 * q + 6 → jI M' 51 k = jI M 51 k) → jI M' 51 (8 * q + 6) = jI M 45 17 → Q M') : wX12_readClause_108 45 (nI (8 * q)) M Q := by
  unfold wX12_readClause_108
  simp only [shA_45, shA_51, shZ_51, shR_45_2, shr_45_2, shR_45_3, shr_45_3, shR_45_4, shr_45_4, shR_45_5, shr_45_5, shR_45_7, shr_45_7, shR_45_16, shr_45_16, shR_45_18, shr_45_18, shR_45_19, shr_45_19, shR_45_21, shr_45_21, shR_45_22, shr_45_22, shR_45_25, shr_45_25, shR_45_26, shr_45_26, shR_45_28, shr_45_28, shR_45_29, shr_45_29, shR_45_33, shr_45_33, shR_45_34, shr_45_34, shR_45_35, shr_45_35, shR_45_36, shr_45_36, shR_45_37, shr_45_37, shR_45_38, shr_45_38, shR_45_39, shr_45_39, shR_45_40, shr_45_40, shR_45_42, shr_45_42, hs, jN_uI, jN_uJ, jN_uR, jK_uI, jK_uJ, jK_uR, jZ_uI, jZ_uJ, jZ_uR, jR_uI, jR_uJ, jr_uI, jr_uJ, jI_uJ, jI_uR, jJ_uI, jJ_uR, jI_uI_eq, jI_uI_ne, jJ_uJ_eq, jJ_uJ_ne, jSh_uI, jSh_uJ, jA_uI, jA_uJ, jA_uR, jI_uIf_eq, jI_uIf_ne, jJ_uIf, jR_uIf, jr_uIf, jZ_uIf, jSh_uIf, jA_uIf, ne_eq, not_false_eq_true, not_true_eq_false, reduceCtorEq, Nat.reduceEqDiff, forall_eq, true_and, and_true, true_implies, forall_const, implies_true, List.mem_cons, List.not_mem_nil, or_false, false_or, or_self, if_true, if_false, reduceIte, Nat.reduceAdd, Nat.reduceMul, Nat.reduceLT, false_implies, Decidable.not_not, bI_eq0, bI_eq1, upd_at, updL_at, Nat.succ_ne_zero, Int32.reduceToNatClampNeg, eq_self, i01, i10]
  rw [li_6, nI_add, nI_tn (by omega)]
  exact ⟨nI_in2 (by omega) (by omega), hQ _ ((jFr.refl _ _).uI (by decide)) (fun k hk => by simp only [jN_uI, jN_uJ, jN_uR, jK_uI, jK_uJ, jK_uR, jZ_uI, jZ_uJ, jZ_uR, jR_uI, jR_uJ, jr_uI, jr_uJ, jI_uJ, jI_uR, jJ_uI, jJ_uR, jI_uI_eq, jI_uI_ne, jJ_uJ_eq, jJ_uJ_ne, jSh_uI, jSh_uJ, jA_uI, jA_uJ, jA_uR, jI_uIf_eq, jI_uIf_ne, jJ_uIf, jR_uIf, jr_uIf, jZ_uIf, jSh_uIf, jA_uIf, ne_eq, not_false_eq_true, not_true_eq_false, reduceCtorEq, Nat.reduceEqDiff, forall_eq, true_and, and_true, true_implies, forall_const, implies_true, List.mem_cons, List.not_mem_nil, or_false, false_or, or_self, if_true, if_false, reduceIte, Nat.reduceAdd, Nat.reduceMul, Nat.reduceLT, false_implies, Decidable.not_not, bI_eq0, bI_eq1, upd_at, updL_at, Nat.succ_ne_zero, Int32.reduceToNatClampNeg, eq_self, i01, i10]; rw [if_neg (by omega)]) (by simp only [jN_uI, jN_uJ, jN_uR, jK_uI, jK_uJ, jK_uR, jZ_uI, jZ_uJ, jZ_uR, jR_uI, jR_uJ, jr_uI, jr_uJ, jI_uJ, jI_uR, jJ_uI, jJ_uR, jI_uI_eq, jI_uI_ne, jJ_uJ_eq, jJ_uJ_ne, jSh_uI, jSh_uJ, jA_uI, jA_uJ, jA_uR, jI_uIf_eq, jI_uIf_ne, jJ_uIf, jR_uIf, jr_uIf, jZ_uIf, jSh_uIf, jA_uIf, ne_eq, not_false_eq_true, not_true_eq_false, reduceCtorEq, Nat.reduceEqDiff, forall_eq, true_and, and_true, true_implies, forall_const, implies_true, List.mem_cons, List.not_mem_nil, or_false, false_or, or_self, if_true, if_false, reduceIte, Nat.reduceAdd, Nat.reduceMul, Nat.reduceLT, false_implies, Decidable.not_not, bI_eq0, bI_eq1, upd_at, updL_at, Nat.succ_ne_zero, Int32.reduceToNatClampNeg, eq_self, i01, i10])⟩
theorem cm_80 {Q : JS → Prop} (hs : jSh M) (hq : q < 12) (hQ : ∀ M', jFr [51] M M' → (∀ k, k < 8 * q + 4 → jI M' 51 k = jI M 51 k) → jI M' 51 (8 * q + 4) = jI M 45 17 → jI M' 51 (8 * q + 5) = jI M 45 17 → (¬ jI M' 45 14 = 0 → wX12_readClause_108 45 (nI (8 * q)) M' Q) ∧ (jI M' 45 14 = 0 → wX12_isWord 45 294 M' (fun r35 S34 => (r35 = 0 → wX12_readClause_108 45 (nI (8 * q)) S34 Q) ∧ (¬ r35 = 0 → jA S34 45 12 ∧ (wX12_next 45 S34 (fun S36 => jA S36 45 12 ∧ (wX12_readExpression 45 1 S36 (fun S39 => wX12_readClause_108 45 (nI (8 * q)) S39 Q)))))))) : wX12_readClause_80 45 (nI (8 * q)) M Q := by
  have f3 : jFr [51] M (uI (uI M 51 (8 * q + 4) (jI M 45 17)) 51 (8 * q + 5) (jI M 45 17)) := ((jFr.refl _ _).uI (by decide)).uI (by decide)
  have r := hQ _ f3 (fun k hk => by simp only [jN_uI, jN_uJ, jN_uR, jK_uI, jK_uJ, jK_uR, jZ_uI, jZ_uJ, jZ_uR, jR_uI, jR_uJ, jr_uI, jr_uJ, jI_uJ, jI_uR, jJ_uI, jJ_uR, jI_uI_eq, jI_uI_ne, jJ_uJ_eq, jJ_uJ_ne, jSh_uI, jSh_uJ, jA_uI, jA_uJ, jA_uR, jI_uIf_eq, jI_uIf_ne, jJ_uIf, jR_uIf, jr_uIf, jZ_uIf, jSh_uIf, jA_uIf, ne_eq, not_false_eq_true, not_true_eq_false, reduceCtorEq, Nat.reduceEqDiff, forall_eq, true_and, and_true, true_implies, forall_const, implies_true, List.mem_cons, List.not_mem_nil, or_false, false_or, or_self, if_true, if_false, reduceIte, Nat.reduceAdd, Nat.reduceMul, Nat.reduceLT, false_implies, Decidable.not_not, bI_eq0, bI_eq1, upd_at, updL_at, Nat.succ_ne_zero, Int32.reduceToNatClampNeg, eq_self, i01, i10]; rw [if_neg (by omega), if_neg (by omega)]) (by simp only [jN_uI, jN_uJ, jN_uR, jK_uI, jK_uJ, jK_uR, jZ_uI, jZ_uJ, jZ_uR, jR_uI, jR_uJ, jr_uI, jr_uJ, jI_uJ, jI_uR, jJ_uI, jJ_uR, jI_uI_eq, jI_uI_ne, jJ_uJ_eq, jJ_uJ_ne, jSh_uI, jSh_uJ, jA_uI, jA_uJ, jA_uR, jI_uIf_eq, jI_uIf_ne, jJ_uIf, jR_uIf, jr_uIf, jZ_uIf, jSh_uIf, jA_uIf, ne_eq, not_false_eq_true, not_true_eq_false, reduceCtorEq, Nat.reduceEqDiff, forall_eq, true_and, and_true, true_implies, forall_const, implies_true, List.mem_cons, List.not_mem_nil, or_false, false_or, or_self, if_true, if_false, reduceIte, Nat.reduceAdd, Nat.reduceMul, Nat.reduceLT, false_implies, Decidable.not_not, bI_eq0, bI_eq1, upd_at, updL_at, Nat.succ_ne_zero, Int32.reduceToNatClampNeg, eq_self, i01, i10]; rw [if_neg (by omega)]) (by simp only [jN_uI, jN_uJ, jN_uR, jK_uI, jK_uJ, jK_uR, jZ_uI, jZ_uJ, jZ_uR, jR_uI, jR_uJ, jr_uI, jr_uJ, jI_uJ, jI_uR, jJ_uI, jJ_uR, jI_uI_eq, jI_uI_ne, jJ_uJ_eq, jJ_uJ_ne, jSh_uI, jSh_uJ, jA_uI, jA_uJ, jA_uR, jI_uIf_eq, jI_uIf_ne, jJ_uIf, jR_uIf, jr_uIf, jZ_uIf, jSh_uIf, jA_uIf, ne_eq, not_false_eq_true, not_true_eq_false, reduceCtorEq, Nat.reduceEqDiff, forall_eq, true_and, and_true, true_implies, forall_const, implies_true, List.mem_cons, List.not_mem_nil, or_false, false_or, or_self, if_true, if_false, reduceIte, Nat.reduceAdd, Nat.reduceMul, Nat.reduceLT, false_implies, Decidable.not_not, bI_eq0, bI_eq1, upd_at, updL_at, Nat.succ_ne_zero, Int32.reduceToNatClampNeg, eq_self, i01, i10])
  unfold wX12_readClause_80
  simp only [shA_45 hs, shR_45_16 hs, shr_45_16 hs, shA_51 hs, shZ_51 hs, ne_eq, not_false_eq_true, not_true_eq_false, reduceCtorEq, Nat.reduceEqDiff, forall_eq, true_and, and_true, true_implies, forall_const, implies_true, List.mem_cons, List.not_mem_nil, or_false, false_or, or_self, if_true, if_false, reduceIte, Nat.reduceAdd, Nat.reduceMul, Nat.reduceLT, false_implies, Decidable.not_not, bI_eq0, bI_eq1, upd_at, updL_at, Nat.succ_ne_zero, Int32.reduceToNatClampNeg, eq_self, i01, i10]
  rw [show (4 : Int32) = nI 4 from rfl, nI_add, nI_tn (by omega)]
  refine ⟨nI_in2 (by omega) (by omega), ?_⟩
  have hs1 : jSh (uI M 51 (8 * q + 4) (jI M 45 17)) := by simp only [jN_uI, jN_uJ, jN_uR, jK_uI, jK_uJ, jK_uR, jZ_uI, jZ_uJ, jZ_uR, jR_uI, jR_uJ, jr_uI, jr_uJ, jI_uJ, jI_uR, jJ_uI, jJ_uR, jI_uI_eq, jI_uI_ne, jJ_uJ_eq, jJ_uJ_ne, jSh_uI, jSh_uJ, jA_uI, jA_uJ, jA_uR, jI_uIf_eq, jI_uIf_ne, jJ_uIf, jR_uIf, jr_uIf, jZ_uIf, jSh_uIf, jA_uIf]; exact hs
  have e17 : jI (uI M 51 (8 * q + 4) (jI M 45 17)) 45 17 = jI M 45 17 := by simp only [jN_uI, jN_uJ, jN_uR, jK_uI, jK_uJ, jK_uR, jZ_uI, jZ_uJ, jZ_uR, jR_uI, jR_uJ, jr_uI, jr_uJ, jI_uJ, jI_uR, jJ_uI, jJ_uR, jI_uI_eq, jI_uI_ne, jJ_uJ_eq, jJ_uJ_ne, jSh_uI, jSh_uJ, jA_uI, jA_uJ, jA_uR, jI_uIf_eq, jI_uIf_ne, jJ_uIf, jR_uIf, jr_uIf, jZ_uIf, jSh_uIf, jA_uIf, ne_eq, not_false_eq_true, not_true_eq_false, reduceCtorEq, Nat.reduceEqDiff, forall_eq, true_and, and_true, true_implies, forall_const, implies_true, List.mem_cons, List.not_mem_nil, or_false, false_or, or_self, if_true, if_false, reduceIte, Nat.reduceAdd, Nat.reduceMul, Nat.reduceLT, false_implies, Decidable.not_not, bI_eq0, bI_eq1, upd_at, updL_at, Nat.succ_ne_zero, Int32.reduceToNatClampNeg, eq_self, i01, i10]
  simp only [shA_45 hs1, shR_45_16 hs1, shr_45_16 hs1, shA_51 hs1, shZ_51 hs1, e17, ne_eq, not_false_eq_true, not_true_eq_false, reduceCtorEq, Nat.reduceEqDiff, forall_eq, true_and, and_true, true_implies, forall_const, implies_true, List.mem_cons, List.not_mem_nil, or_false, false_or, or_self, if_true, if_false, reduceIte, Nat.reduceAdd, Nat.reduceMul, Nat.reduceLT, false_implies, Decidable.not_not, bI_eq0, bI_eq1, upd_at, updL_at, Nat.succ_ne_zero, Int32.reduceToNatClampNeg, eq_self, i01, i10]
  rw [li_5, nI_add, nI_tn (by omega)]
  refine ⟨nI_in2 (by omega) (by omega), shA_45 (f3.sh.mpr hs), r⟩
theorem cm_head {Q : JS → Prop} (hx : Cx t e A B sg vl so bb wo) (h : MC t e A B so bb wo M i l n) (h15 : jI M 45 15 = nI q) (hq : q ≤ 12) (h1 : q < 12 → 17 ≤ sg i → sg i ≤ 19 → ∀ M', MFc M M' n q → MC t e A B so bb wo M' (i + 1) l n → jI M' 45 15 = nI q → wX12_readClause_43 45 (nI (sg i - 17)) (nI (8 * q)) 8 M' Q) (h0 : ¬ (q < 12 ∧ 17 ≤ sg i ∧ sg i ≤ 19) → ∀ M', MX M M' (A i) → Q M') : wX12_readClause 45 M Q := by
  have hs := h.1.1
  unfold wX12_readClause
  have := head_go hx h (Q := Q) ?_ 3 0 (by omega)
  · rw [if_neg (by omega)] at this; exact this
  have bad : ¬ (q < 12 ∧ 17 ≤ sg i ∧ sg i ≤ 19) → ∀ x, wX12_readClause_30 45 x 45 M Q := by
    intro z x
    unfold wX12_readClause_30 wX12_readClause_31
    refine ⟨shA_45 hs, MC.mustB h (fun M1 x1 => ⟨shA_45 (x1.1.sh.mpr hs), fun y => ?_, fun _ => h0 z M1 x1⟩)⟩
    rw [x1.2.2.1] at y; exact absurd y (by decide)
  refine hd_roll (fun K hK => ?_)
  unfold bX12_readClause_4
  refine ⟨fun _ => ?_, fun z => absurd (by decide) z⟩
  rw [h15, li_12, nI_le' (by omega) (by omega)]
  by_cases c0 : 17 ≤ sg i ∧ sg i < 20
  · rw [if_pos c0]
    have ne : ¬ nI (sg i - 17) = -1 := by
      rcases (by omega : sg i - 17 = 0 ∨ sg i - 17 = 1 ∨ sg i - 17 = 2) with q | q | q <;> rw [q] <;> decide
    refine ⟨fun z => absurd z ne, fun _ => ⟨shA_45 hs, fun z => bad (by omega) _, fun z => ?_⟩⟩
    unfold wX12_readClause_31
    refine ⟨shA_45 hs, MC.mustN h (by decide) (MC.next hx h (by omega) (fun M1 f1 k1 m1 => ⟨shA_45 m1.1.1, fun _ x5 e5 => ?_, fun y => absurd m1.2.2.1.1 y⟩))⟩
    have g15 : jI M1 45 15 = nI q := by rw [k1.I 15 (by decide)]; exact h15
    rw [g15, li_8, nI_mul] at e5
    subst e5
    refine zf_go m1.1.1 (by omega) (fun M2 f2 g2 => ?_) 8 0 M1 (by omega) (jFr.refl _ _) (fun _ _ => rfl)
    refine h1 (by omega) (by omega) (by omega) M2 ?_ (m1.fr (f2.mono (by decide)) (jFk.of f2 (by decide))) (by rw [f2.I 45 (by decide)]; exact g15)
    refine MFc.tr (n1 := n) (q1 := q) ⟨f1.mono (by decide), k1.mono (by decide), fun k hk => by rw [f1.I 52 (by decide), f1.I 53 (by decide)]; exact ⟨rfl, rfl⟩, fun k hk => by rw [f1.I 51 (by decide)]⟩ (MFc.of51 f2 g2) (Nat.le_refl _) (Nat.le_refl _)
  · rw [if_neg c0]
    exact ⟨fun _ => bad (by omega) _, fun z => absurd rfl z⟩
theorem j_clause (hx : Cx t e A B sg vl so bb wo) (hl : l ≤ 50) (he : i ≤ e) (hq : q ≤ 12) :
    (∃ m h f g i' l', i < i' ∧ i' ≤ e ∧ l' ≤ 50 ∧ q < 12 ∧ m < 3 ∧ fB f ∧ fZ g ∧ (∀ S c D Q, CC e A sg vl S i l c q → 42 ≤ D → (∀ S' c', CFc S S' c q → CC e A sg vl S' i' l' c' (q + 1) → c ≤ c' → ClS S' q c' m h f g → Q 1 S') → jCall jmt jbud D 35 [.ref 14] S (jqI Q)) ∧ (∀ M n Q, MC t e A B so bb wo M i l n → jI M 45 15 = nI q → (∀ M' n', MFc M M' n q → MC t e A B so bb wo M' i' l' n' → jI M' 45 15 = nI (q + 1) → n ≤ n' → ClM M' q n' m h f g → Q M') → wX12_readClause 45 M Q))
    ∨ (∃ i', i' ≤ e ∧ (∀ S c D Q, CC e A sg vl S i l c q → 42 ≤ D → (∀ S', CXc S S' i' → Q 0 S') → jCall jmt jbud D 35 [.ref 14] S (jqI Q)) ∧ (∀ M n Q, MC t e A B so bb wo M i l n → jI M 45 15 = nI q → (∀ M', MXc M M' (A i') → Q M') → wX12_readClause 45 M Q)) := by
  by_cases hd : q < 12 ∧ 17 ≤ sg i ∧ sg i ≤ 19
  · obtain ⟨q12, s17, s19⟩ := hd
    have hlt := hx.1.lt he (by omega)
    -- behind what a clause tells: at i1, with l1 parts
    have tail : ∀ i1 l1, i < i1 → i1 ≤ e → l1 ≤ 50 →
      (∃ h g i' l', i1 ≤ i' ∧ i' ≤ e ∧ l' ≤ 50 ∧ fZ g ∧ (∀ S c D Q, CC e A sg vl S i1 l1 c q → 41 ≤ D → (∀ S' c' b, CFc S S' c q → CC e A sg vl S' i' l' c' (q + 1) → c ≤ c' → b = c → jI S' 16 q = jI S 16 q → jI S' 17 q = jI S 17 q → jI S' 18 q = nI b → jI S' 19 q = nI c' → ((h = 0 ∧ b = c') ∨ (h = 1 ∧ b < c' ∧ cD (jI S' 20) 20 b c' g)) → Q 1 S') → wX5_readClause_43 (jCall jmt jbud D) 14 S Q) ∧ (∀ M n Q, MC t e A B so bb wo M i1 l1 n → (∀ M' n', MFc M M' n q → MC t e A B so bb wo M' i' l' n' → n ≤ n' → jI M' 45 15 = jI M 45 15 → jI M' 51 (8 * q) = jI M 51 (8 * q) → jI M' 51 (8 * q + 3) = jI M 51 (8 * q + 3) → jI M' 51 (8 * q + 4) = nI n → jI M' 51 (8 * q + 5) = nI n → jI M' 51 (8 * q + 6) = nI n' → ((h = 0 ∧ n = n') ∨ (h = 1 ∧ n < n' ∧ mD (jI M' 52) (jI M' 53) n n' g)) → Q M') → wX12_readClause_80 45 (nI (8 * q)) M Q))
      ∨ (∃ i', i' ≤ e ∧ (∀ S c D Q, CC e A sg vl S i1 l1 c q → 41 ≤ D → (∀ S', CXc S S' i' → Q 0 S') → wX5_readClause_43 (jCall jmt jbud D) 14 S Q) ∧ (∀ M n Q, MC t e A B so bb wo M i1 l1 n → (∀ M', MXc M M' (A i') → Q M') → wX12_readClause_80 45 (nI (8 * q)) M Q)) := by
      intro i1 l1 r1 r2 r3
      by_cases c20 : sg i1 = 20
      · have hlt1 := hx.1.lt r2 (by omega)
        have mgo : ∀ M n (Q : JS → Prop), MC t e A B so bb wo M i1 l1 n → (∀ M3, MFc M M3 n q → MC t e A B so bb wo M3 (i1 + 1) l1 n → jI M3 45 15 = jI M 45 15 → (∀ k, k < 8 * q + 4 → jI M3 51 k = jI M 51 k) → jI M3 51 (8 * q + 4) = nI n → jI M3 51 (8 * q + 5) = nI n → wX12_readExpression 45 1 M3 (fun S39 => wX12_readClause_108 45 (nI (8 * q)) S39 Q)) → wX12_readClause_80 45 (nI (8 * q)) M Q := by
          intro M n Q h hq3
          refine cm_80 h.1.1 q12 (fun M2 f2 g2 e4 e5 => ?_)
          have m2 := h.fr (f2.mono (by decide)) (jFk.of f2 (by decide))
          refine ⟨fun z => absurd m2.2.2.1.1 z, fun _ => MC.isWord hx m2 (show ((294 : Int64), 20) ∈ wdT by decide) (fun _ => ⟨fun z => absurd z (by decide), fun _ => ⟨shA_45 m2.1.1, MC.next hx m2 (by omega) (fun M3 f3 k3 m3 => ⟨shA_45 m3.1.1, ?_⟩)⟩⟩) (fun z => absurd c20 z)⟩
          refine hq3 M3 (MFc.tr (n1 := n) (q1 := q) (MFc.of51 f2 (fun k hk => g2 k (by omega))) ⟨f3.mono (by decide), k3.mono (by decide), fun k hk => by rw [f3.I 52 (by decide), f3.I 53 (by decide)]; exact ⟨rfl, rfl⟩, fun k hk => by rw [f3.I 51 (by decide)]⟩ (Nat.le_refl _) (Nat.le_refl _)) m3 ?_ ?_ ?_ ?_
          · rw [k3.I 15 (by decide), f2.I 45 (by decide)]
          · intro k hk; rw [f3.I 51 (by decide)]; exact g2 k hk
          · rw [f3.I 51 (by decide), e4]; exact h.2.2.1.2.1
          · rw [f3.I 51 (by decide), e5]; exact h.2.2.1.2.1
        rcases e_test hx r3 (show i1 + 1 ≤ e by omega) with ⟨g, i2, l2, u1, u2, u3, u4, hC, hM⟩ | ⟨i2, u2, hC, hM⟩
        · refine Or.inl ⟨1, g, i2, l2, by omega, u2, u3, u4, fun S c D Q h hD hQ => ?_, fun M n Q h hQ => ?_⟩
          · refine cl_43 hx h q12 (fun z => absurd c20 z) (fun _ S2 f2 h2 e2 t2 => hC S2 c D _ h2.1 hD (fun S3 c3 f3 h3 k3 d3 => ⟨fun _ => ?_, fun z => absurd z (by decide)⟩))
            have g7 : jI S3 14 7 = nI q := by rw [f3.2.1.I 7 (by decide)]; exact h2.2
            have lt3 := cD_lt d3 (by omega)
            refine cl_60 ⟨h3, g7⟩ q12 (fun S4 f4 h4 e4 t4 => hQ S4 c3 c ((f2.tr f3.toc (Nat.le_refl _) (Nat.le_refl _)).tr f4 (by omega) (Nat.le_refl _)) h4 (by omega) rfl ?_ ?_ ?_ t4 (Or.inr ⟨rfl, lt3, by rw [e4.2.2.2]; exact d3⟩))
            · rw [e4.1, f3.1.I 16 (by decide), e2.1]
            · rw [e4.2.1, f3.1.I 17 (by decide), e2.2.1]
            · rw [e4.2.2.1, f3.1.I 18 (by decide)]; exact t2
          · refine mgo M n Q h (fun M3 f3 m3 g15 g3 e4 e5 => hM M3 n _ m3 (fun M4 n4 f4 m4 d4 => cm_108 m4.1.1 q12 (fun M5 f5 g5 e6 => ?_)))
            have e51 := f4.1.I 51 (by decide)
            refine hQ M5 n4 ((f3.tr f4.toc (Nat.le_refl _) (Nat.le_refl _)).tr (n1 := n) (q1 := q) (MFc.of51 f5 (fun k hk => g5 k (by omega))) (Nat.le_refl _) (Nat.le_refl _)) (m4.fr (f5.mono (by decide)) (jFk.of f5 (by decide))) d4.1 ?_ ?_ ?_ ?_ ?_ ?_ (Or.inr ⟨rfl, mD_lt d4, by rw [f5.I 52 (by decide), f5.I 53 (by decide)]; exact d4⟩)
            · rw [f5.I 45 (by decide), f4.2.1.I 15 (by decide)]; exact g15
            · rw [g5 _ (by omega), e51]; exact g3 _ (by omega)
            · rw [g5 _ (by omega), e51]; exact g3 _ (by omega)
            · rw [g5 _ (by omega), e51]; exact e4
            · rw [g5 _ (by omega), e51]; exact e5
            · rw [e6]; exact m4.2.2.1.2.1
        · refine Or.inr ⟨i2, u2, fun S c D Q h hD hQ => ?_, fun M n Q h hQ => ?_⟩
          · exact cl_43 hx h q12 (fun z => absurd c20 z) (fun _ S2 f2 h2 e2 t2 => hC S2 c D _ h2.1 hD (fun S3 x3 => ⟨fun z => absurd rfl z, fun _ => hQ S3 (f2.cx x3.toc)⟩))
          · refine mgo M n Q h (fun M3 f3 m3 g15 g3 e4 e5 => hM M3 n _ m3 (fun M4 x4 => cm_108 (x4.1.sh.mpr m3.1.1) q12 (fun M5 f5 g5 e6 => hQ M5 ?_)))
            have y := f3.mx x4.toc
            exact ⟨y.1.tr (f5.mono (by decide)), y.2.1.tr (jFk.of f5 (by decide)), by rw [f5.I 45 (by decide)]; exact y.2.2.1, by rw [f5.I 45 (by decide)]; exact y.2.2.2⟩
      · refine Or.inl ⟨0, fun _ => none, i1, l1, Nat.le_refl _, r2, r3, (fun env v z => by cases z), fun S c D Q h hD hQ => ?_, fun M n Q h hQ => ?_⟩
        · refine cl_43 hx h q12 (fun _ S2 f2 h2 e2 t2 => cl_60 h2 q12 (fun S4 f4 h4 e4 t4 => hQ S4 c c (f2.tr f4 (Nat.le_refl _) (Nat.le_refl _)) h4 (Nat.le_refl _) rfl ?_ ?_ ?_ t4 (Or.inl ⟨rfl, rfl⟩))) (fun z => absurd z c20)
          · rw [e4.1, e2.1]
          · rw [e4.2.1, e2.2.1]
          · rw [e4.2.2.1]; exact t2
        · refine cm_80 h.1.1 q12 (fun M2 f2 g2 e4 e5 => ?_)
          have m2 := h.fr (f2.mono (by decide)) (jFk.of f2 (by decide))
          refine ⟨fun z => absurd m2.2.2.1.1 z, fun _ => MC.isWord hx m2 (show ((294 : Int64), 20) ∈ wdT by decide) (fun z => absurd z c20) (fun _ => ⟨fun _ => cm_108 m2.1.1 q12 (fun M5 f5 g5 e6 => ?_), fun z => absurd rfl z⟩)⟩
          refine hQ M5 n (MFc.tr (n1 := n) (q1 := q) (MFc.of51 f2 (fun k hk => g2 k (by omega))) (MFc.of51 f5 (fun k hk => g5 k (by omega))) (Nat.le_refl _) (Nat.le_refl _)) (m2.fr (f5.mono (by decide)) (jFk.of f5 (by decide))) (Nat.le_refl _) ?_ ?_ ?_ ?_ ?_ ?_ (Or.inl ⟨rfl, rfl⟩)
          · rw [f5.I 45 (by decide), f2.I 45 (by decide)]
          · rw [g5 _ (by omega)]; exact g2 _ (by omega)
          · rw [g5 _ (by omega)]; exact g2 _ (by omega)
          · rw [g5 _ (by omega), e4]; exact h.2.2.1.2.1
          · rw [g5 _ (by omega), e5]; exact h.2.2.1.2.1
          · rw [e6]; exact m2.2.2.1.2.1
    have chd : ∀ S c D (Q : Int32 → JS → Prop), CC e A sg vl S i l c q → 42 ≤ D → (∀ S', CFc S S' c q → CC e A sg vl S' (i + 1) l c q → jI S' 16 q = nI (sg i) → jI S' 17 q = nI c → (sg i = 19 → wX5_readClause_43 (jCall jmt jbud (D - 1)) 14 S' Q) ∧ (¬ sg i = 19 → jCall jmt jbud (D - 1) 41 [.ref 14, .int 0] S' (jqI (fun r34 S33 => (¬ r34 = 0 → wX5_readClause_43 (jCall jmt jbud (D - 1)) 14 S33 Q) ∧ (r34 = 0 → Q 0 S33))))) → jCall jmt jbud D 35 [.ref 14] S (jqI Q) := by
      intro S c D Q h hD hQ
      exact vX5_readClause D (by omega) (fun _ _ _ _ z => z) (cl_head hx h q12 s17 s19 hQ)
    have mhd : ∀ M n (Q : JS → Prop), MC t e A B so bb wo M i l n → jI M 45 15 = nI q → (∀ M', MFc M M' n q → MC t e A B so bb wo M' (i + 1) l n → jI M' 45 15 = nI (q + 1) → jI M' 51 (8 * q) = nI (sg i - 17) → jI M' 51 (8 * q + 3) = nI n → (sg i = 19 → wX12_readClause_80 45 (nI (8 * q)) M' Q) ∧ (¬ sg i = 19 → wX12_readExpression 45 0 M' (fun S => wX12_readClause_80 45 (nI (8 * q)) S Q))) → wX12_readClause 45 M Q := by
      intro M n Q h h15 hQ
      refine cm_head hx h h15 hq (fun _ _ _ M1 f1 m1 g1 => cm_43 m1 g1 q12 (by omega) (fun M2 f2 m2 g2 a2 b2 => ?_)) (fun z => absurd ⟨q12, s17, s19⟩ z)
      have r := hQ M2 (f1.tr f2 (Nat.le_refl _) (Nat.le_refl _)) m2 g2 a2 b2
      exact ⟨fun z => r.1 (by omega), fun z => r.2 (by omega)⟩
    by_cases c19 : sg i = 19
    · rcases tail (i + 1) l (by omega) (by omega) hl with ⟨h, g, i2, l2, v1, v2, v3, v4, tC, tM⟩ | ⟨i2, v2, tC, tM⟩
      · refine Or.inl ⟨2, h, fWord 0, g, i2, l2, by omega, v2, v3, q12, by omega, fB_word, v4, fun S c D Q hh hD hQ => ?_, fun M n Q hh h15 hQ => ?_⟩
        · refine chd S c D Q hh hD (fun S2 f2 h2 a2 b2 => ⟨fun _ => tC S2 c (D - 1) Q h2 (by omega) (fun S3 c3 b3 f3 h3 le3 eb a3 a4 a5 a6 hh3 => ?_), fun z => absurd c19 z⟩)
          subst eb
          refine hQ S3 c3 (f2.tr f3 (Nat.le_refl _) (Nat.le_refl _)) h3 le3 ⟨by rw [a3, a2, c19], b3, b3, c3, ⟨Nat.le_refl _, le3, Nat.le_refl _⟩, ⟨by rw [a4]; exact b2, a5, a6⟩, fun z => absurd rfl z, hh3⟩
        · refine mhd M n Q hh h15 (fun M2 f2 m2 g2 a2 b2 => ⟨fun _ => tM M2 n Q m2 (fun M3 n3 f3 m3 le3 g3 x0 x3 x4 x5 x6 hh3 => ?_), fun z => absurd c19 z⟩)
          exact hQ M3 n3 (f2.tr f3 (Nat.le_refl _) (Nat.le_refl _)) m3 (by rw [g3]; exact g2) le3 ⟨by rw [x0, a2, c19], n, n, n3, ⟨Nat.le_refl _, le3, Nat.le_refl _⟩, ⟨by rw [x3]; exact b2, x4, x5, x6⟩, fun z => absurd rfl z, hh3⟩
      · refine Or.inr ⟨i2, v2, fun S c D Q hh hD hQ => ?_, fun M n Q hh h15 hQ => ?_⟩
        · exact chd S c D Q hh hD (fun S2 f2 h2 a2 b2 => ⟨fun _ => tC S2 c (D - 1) Q h2 (by omega) (fun S3 x3 => hQ S3 (f2.cx x3)), fun z => absurd c19 z⟩)
        · exact mhd M n Q hh h15 (fun M2 f2 m2 g2 a2 b2 => ⟨fun _ => tM M2 n Q m2 (fun M3 x3 => hQ M3 (f2.mx x3)), fun z => absurd c19 z⟩)
    · rcases e_sum hx hl (show i + 1 ≤ e by omega) with ⟨f, i1, l1, u1, u2, u3, u4, hC, hM⟩ | ⟨i1, u2, hC, hM⟩
      · rcases tail i1 l1 (by omega) u2 u3 with ⟨h, g, i2, l2, v1, v2, v3, v4, tC, tM⟩ | ⟨i2, v2, tC, tM⟩
        · refine Or.inl ⟨sg i - 17, h, f, g, i2, l2, by omega, v2, v3, q12, by omega, u4, v4, fun S c D Q hh hD hQ => ?_, fun M n Q hh h15 hQ => ?_⟩
          · refine chd S c D Q hh hD (fun S2 f2 h2 a2 b2 => ⟨fun z => absurd z c19, fun _ => hC S2 c (D - 1) _ h2.1 (by omega) (fun S3 c3 f3 h3 k3 d3 => ⟨fun _ => ?_, fun z => absurd z (by decide)⟩)⟩)
            have g7 : jI S3 14 7 = nI q := by rw [f3.2.1.I 7 (by decide)]; exact h2.2
            have l3 := d3.1
            refine tC S3 c3 (D - 1) Q ⟨h3, g7⟩ (by omega) (fun S4 c4 b4 f4 h4 le4 eb a3 a4 a5 a6 hh3 => ?_)
            subst eb
            refine hQ S4 c4 ((f2.tr f3.toc (Nat.le_refl _) (Nat.le_refl _)).tr f4 l3 (Nat.le_refl _)) h4 (by omega) ⟨?_, c, b4, c4, ⟨l3, le4, Nat.le_refl _⟩, ⟨?_, a5, a6⟩, fun _ => cD_le (cD_congr d3 (fun k _ k2 => f4.2.2.1 k k2)) (by omega), hh3⟩
            · rw [a3, f3.1.I 16 (by decide), a2]; congr 1; omega
            · rw [a4, f3.1.I 17 (by decide)]; exact b2
          · refine mhd M n Q hh h15 (fun M2 f2 m2 g2 a2 b2 => ⟨fun z => absurd z c19, fun _ => hM M2 n _ m2 (fun M3 n3 f3 m3 d3 => tM M3 n3 Q m3 (fun M4 n4 f4 m4 le4 g4 x0 x3 x4 x5 x6 hh3 => ?_))⟩)
            have l3 := d3.1
            have e51 := f3.1.I 51 (by decide)
            refine hQ M4 n4 ((f2.tr f3.toc (Nat.le_refl _) (Nat.le_refl _)).tr f4 l3 (Nat.le_refl _)) m4 ?_ (by omega) ⟨?_, n, n3, n4, ⟨l3, le4, Nat.le_refl _⟩, ⟨?_, x4, x5, x6⟩, fun _ => mD_congr d3 (fun k _ k2 => f4.2.2.1 k k2), hh3⟩
            · rw [g4, f3.2.1.I 15 (by decide)]; exact g2
            · rw [x0, e51, a2]
            · rw [x3, e51]; exact b2
        · refine Or.inr ⟨i2, v2, fun S c D Q hh hD hQ => ?_, fun M n Q hh h15 hQ => ?_⟩
          · refine chd S c D Q hh hD (fun S2 f2 h2 a2 b2 => ⟨fun z => absurd z c19, fun _ => hC S2 c (D - 1) _ h2.1 (by omega) (fun S3 c3 f3 h3 k3 d3 => ⟨fun _ => ?_, fun z => absurd z (by decide)⟩)⟩)
            have g7 : jI S3 14 7 = nI q := by rw [f3.2.1.I 7 (by decide)]; exact h2.2
            exact tC S3 c3 (D - 1) Q ⟨h3, g7⟩ (by omega) (fun S4 x4 => hQ S4 ((f2.tr f3.toc (Nat.le_refl _) (Nat.le_refl _)).cx x4))
          · exact mhd M n Q hh h15 (fun M2 f2 m2 g2 a2 b2 => ⟨fun z => absurd z c19, fun _ => hM M2 n _ m2 (fun M3 n3 f3 m3 d3 => tM M3 n3 Q m3 (fun M4 x4 => hQ M4 ((f2.tr f3.toc (Nat.le_refl _) (Nat.le_refl _)).mx x4)))⟩)
      · refine Or.inr ⟨i1, u2, fun S c D Q hh hD hQ => ?_, fun M n Q hh h15 hQ => ?_⟩
        · exact chd S c D Q hh hD (fun S2 f2 h2 a2 b2 => ⟨fun z => absurd z c19, fun _ => hC S2 c (D - 1) _ h2.1 (by omega) (fun S3 x3 => ⟨fun z => absurd rfl z, fun _ => hQ S3 (f2.cx x3.toc)⟩)⟩)
        · refine mhd M n Q hh h15 (fun M2 f2 m2 g2 a2 b2 => ⟨fun z => absurd z c19, fun _ => hM M2 n _ m2 (fun M3 x3 => cm_80 (x3.1.sh.mpr m2.1.1) q12 (fun M4 f4 g4 e4 e5 => ?_))⟩)
          have y := f2.mx x3.toc
          have b4 : jI M4 45 14 = 1 := by rw [f4.I 45 (by decide)]; exact y.2.2.1
          refine ⟨fun _ => cm_108 (f4.sh.mpr (x3.1.sh.mpr m2.1.1)) q12 (fun M5 f5 g5 e6 => hQ M5 ⟨(y.1.tr (f4.mono (by decide))).tr (f5.mono (by decide)), (y.2.1.tr (jFk.of f4 (by decide))).tr (jFk.of f5 (by decide)), by rw [f5.I 45 (by decide)]; exact b4, by rw [f5.I 45 (by decide), f4.I 45 (by decide)]; exact y.2.2.2⟩), fun z => by rw [b4] at z; exact absurd z (by decide)⟩
  · refine Or.inr ⟨i, he, fun S c D Q h hD hQ => ?_, fun M n Q h h15 hQ => ?_⟩
    · exact vX5_readClause D (by omega) (fun _ _ _ _ z => z) (cl_no hx h hq hd (hQ S ⟨jFr.refl _ _, jFk.refl _ _ _, h.1.2.1.1⟩))
    · exact cm_head hx h h15 hq (fun z1 z2 z3 => absurd ⟨z1, z2, z3⟩ hd) (fun _ M1 x1 => hQ M1 x1.toc)
end JCLAUSE
