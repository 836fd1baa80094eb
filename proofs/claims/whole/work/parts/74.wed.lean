/-! WED, JILT -/
theorem BC_wed {S X : JS} {a b : Nat} (hI : Inv S) (e0 : jI X 47 0 = jI S 47 0) (e1 : jI X 47 1 = jI S 47 1) (e4 : jI X 47 4 = jI S 47 4) (e8 : ∀ n, n < 60 → jI X 47 (8 + n) = jI S 47 (8 + n)) (el : ∀ k, 200 ≤ k → jI X 47 k = jI S 47 k) (hw : ∀ r n, n < 60 → ¬ (a ≤ n ∧ n ≤ b) → (gWd (jI X 47) r n ↔ gWd (jI S 47) r n)) (h27 : ∀ p, jI X 27 p = -1 ∨ jI X 27 p = jI S 27 p) (h28 : ∀ p, jI X 28 p = -1 ∨ jI X 28 p = jI S 28 p) (h0 : ∀ n r, a ≤ n → n ≤ b → r < 9 → jI X 27 (n * 9 + r) = -1 ∧ jI X 28 (n * 9 + r) = -1) : BC X := by
  refine hI.2.2.1.chg (fun m r hm hr => ?_)
  by_cases e : a ≤ m ∧ m ≤ b
  · have := h0 m r e.1 e.2 hr
    exact ⟨Or.inl this.1, Or.inl this.2⟩
  · refine ⟨(h27 _).imp id (fun z => ⟨z, fun i => ?_⟩), (h28 _).imp id (fun z => ⟨z, ?_⟩)⟩
    · exact gSl_c hI.2.1.lf hm e0 e1 e4 (e8 m hm) (fun j _ _ k _ _ => el k (by omega)) (hw r m hm e) i
    · exact gTell_c hI.2.1.lf hm e0 e1 e4 (e8 m hm) (fun j _ _ k _ _ => el k (by omega)) _ _ _
theorem q_wed {S : JS} {Q : Int32 → JS → Prop} {x y z : Int32} (hI : Inv S) (hq : ∀ r S1, Mdl (wX12_wed 45 x y z) S r S1 → Q r S1) : wX11_wed 0 x y z S Q := by
  have hs := hI.1
  obtain ⟨q1, q2, q3, q4, q5, q6, q7, q8, q9⟩ := MW_iff.mp hI.2.1
  obtain ⟨⟨q, w1, w2, w3⟩, c3, cc⟩ := id q5
  rw [w2] at c3
  have no : ¬ ((0 ≤ y ∧ y ≤ 59) ∧ (0 ≤ z ∧ z ≤ 59) ∧ y ≤ z) → wX11_wed_9 0 S Q := by
    intro hx
    unfold wX11_wed_9
    refine ⟨shA_0 hs, sX11_ref 0 1 (Or.inl ⟨rfl, rfl, rfl⟩) hI hq (fun S1 Q' hA k => ?_)⟩
    unfold wX12_wed wX12_wed_12
    refine ⟨hA, fun M eM => ?_⟩
    obtain ⟨hsM, hmM, eMI, kM, ht⟩ := k M eM
    refine sX12_isNight (fun n hn en => ⟨fun q => absurd q (by decide), fun _ => ?_⟩) (fun _ => ⟨fun _ => ⟨shA_45 hsM, ht⟩, fun q => absurd rfl q⟩)
    subst en
    refine sX12_isNight (fun m hm em => ⟨fun q => absurd q (by decide), fun _ => ⟨fun le => ?_, fun _ => ⟨shA_45 hsM, ht⟩⟩⟩) (fun _ => ⟨fun _ => ⟨shA_45 hsM, ht⟩, fun q => absurd rfl q⟩)
    subst em
    exact absurd ⟨ex59 hn, ex59 hm, le⟩ hx
  unfold wX11_wed
  refine sX11_isNight (fun n hn en => ⟨fun q => absurd q (by decide), fun _ => ?_⟩) (fun h => ⟨fun _ => no (fun w => h w.1), fun q => absurd rfl q⟩)
  refine sX11_isNight (fun b hb eb => ⟨fun q => absurd q (by decide), fun _ => ⟨fun le => ?_, fun nle => no (fun w => nle w.2.2)⟩⟩) (fun h => ⟨fun _ => no (fun w => h w.2.1), fun q => absurd rfl q⟩)
  subst en eb
  have leN : n ≤ b := (nI_le' (by omega) (by omega)).mp le
  simp only [shA_0, shA_1, shR_0_0, shr_0_0, shR_0_1, shr_0_1, shR_0_2, shr_0_2, shR_0_3, shr_0_3, shR_0_4, shr_0_4, shR_0_5, shr_0_5, shR_0_6, shr_0_6, shR_0_7, shr_0_7, shR_0_8, shr_0_8, shR_0_9, shr_0_9, shR_1_4, shr_1_4, shR_1_5, shr_1_5, shR_1_6, shr_1_6, shR_1_9, shr_1_9, shR_1_11, shr_1_11, hs, ne_eq, not_false_eq_true, not_true_eq_false, reduceCtorEq, Nat.reduceEqDiff, forall_eq, true_and, and_true, true_implies, forall_const, implies_true, List.mem_cons, List.not_mem_nil, or_false, false_or, or_self, if_true, if_false, reduceIte, Nat.reduceAdd, Nat.reduceMul, Nat.reduceLT, false_implies, Decidable.not_not, bI_eq0, bI_eq1, upd_at, updL_at, Nat.succ_ne_zero, Int32.reduceToNatClampNeg, eq_self, i01, i10]
  refine sX9_hasRock' hs hI.2.1 (fun r hr er => ⟨fun _ => ?_, fun q => absurd q (by decide)⟩) (fun hx => ⟨fun q => absurd rfl q, fun _ => ⟨shA_0 hs, ?_⟩⟩)
  · subst er
    have hR := q1.1.2.1
    simp only [shA_0, shA_1, shA_2, shR_0_0, shr_0_0, shR_0_1, shr_0_1, shR_0_2, shr_0_2, shR_0_3, shr_0_3, shR_0_4, shr_0_4, shR_0_5, shr_0_5, shR_0_6, shr_0_6, shR_0_7, shr_0_7, shR_0_8, shr_0_8, shR_0_9, shr_0_9, shR_1_4, shr_1_4, shR_1_5, shr_1_5, shR_1_6, shr_1_6, shR_1_9, shr_1_9, shR_1_11, shr_1_11, shR_2_0, shr_2_0, shR_2_1, shr_2_1, shR_2_2, shr_2_2, hs, ne_eq, not_false_eq_true, not_true_eq_false, reduceCtorEq, Nat.reduceEqDiff, forall_eq, true_and, and_true, true_implies, forall_const, implies_true, List.mem_cons, List.not_mem_nil, or_false, false_or, or_self, if_true, if_false, reduceIte, Nat.reduceAdd, Nat.reduceMul, Nat.reduceLT, false_implies, Decidable.not_not, bI_eq0, bI_eq1, upd_at, updL_at, Nat.succ_ne_zero, Int32.reduceToNatClampNeg, eq_self, i01, i10]
    refine sX8_isFull (T8_w hs) c3 w1 (fun hlt => ⟨fun _ => ?_, fun q => absurd rfl q⟩) (fun e4 => ⟨fun q => absurd q (by decide), fun _ => ⟨shA_0 hs, ?_⟩⟩)
    · simp only [shA_0, shA_1, shA_2, shR_0_0, shr_0_0, shR_0_1, shr_0_1, shR_0_2, shr_0_2, shR_0_3, shr_0_3, shR_0_4, shr_0_4, shR_0_5, shr_0_5, shR_0_6, shr_0_6, shR_0_7, shr_0_7, shR_0_8, shr_0_8, shR_0_9, shr_0_9, shR_1_4, shr_1_4, shR_1_5, shr_1_5, shR_1_6, shr_1_6, shR_1_9, shr_1_9, shR_1_11, shr_1_11, shR_2_0, shr_2_0, shR_2_1, shr_2_1, shR_2_2, shr_2_2, hs, ne_eq, not_false_eq_true, not_true_eq_false, reduceCtorEq, Nat.reduceEqDiff, forall_eq, true_and, and_true, true_implies, forall_const, implies_true, List.mem_cons, List.not_mem_nil, or_false, false_or, or_self, if_true, if_false, reduceIte, Nat.reduceAdd, Nat.reduceMul, Nat.reduceLT, false_implies, Decidable.not_not, bI_eq0, bI_eq1, upd_at, updL_at, Nat.succ_ne_zero, Int32.reduceToNatClampNeg, eq_self, i01, i10]
      refine sX8_put (T8_w hs) c3 hlt ?_
      simp only [shA_0, shA_1, shA_2, shA_23, shR_0_0, shr_0_0, shR_0_1, shr_0_1, shR_0_2, shr_0_2, shR_0_3, shr_0_3, shR_0_4, shr_0_4, shR_0_5, shr_0_5, shR_0_6, shr_0_6, shR_0_7, shr_0_7, shR_0_8, shr_0_8, shR_0_9, shr_0_9, shR_1_4, shr_1_4, shR_1_5, shr_1_5, shR_1_6, shr_1_6, shR_1_9, shr_1_9, shR_1_11, shr_1_11, shR_2_0, shr_2_0, shR_2_1, shr_2_1, shR_2_2, shr_2_2, shR_23_0, shr_23_0, shR_23_1, shr_23_1, shR_23_2, shr_23_2, hs, jN_uI, jN_uJ, jN_uR, jK_uI, jK_uJ, jK_uR, jZ_uI, jZ_uJ, jZ_uR, jR_uI, jR_uJ, jr_uI, jr_uJ, jI_uJ, jI_uR, jJ_uI, jJ_uR, jI_uI_eq, jI_uI_ne, jJ_uJ_eq, jJ_uJ_ne, jSh_uI, jSh_uJ, jA_uI, jA_uJ, jA_uR, jI_uIf_eq, jI_uIf_ne, jJ_uIf, jR_uIf, jr_uIf, jZ_uIf, jSh_uIf, jA_uIf, ne_eq, not_false_eq_true, not_true_eq_false, reduceCtorEq, Nat.reduceEqDiff, forall_eq, true_and, and_true, true_implies, forall_const, implies_true, List.mem_cons, List.not_mem_nil, or_false, false_or, or_self, if_true, if_false, reduceIte, Nat.reduceAdd, Nat.reduceMul, Nat.reduceLT, false_implies, Decidable.not_not, bI_eq0, bI_eq1, upd_at, updL_at, Nat.succ_ne_zero, Int32.reduceToNatClampNeg, eq_self, i01, i10]
      have g0 : jFr [2, 3, 4, 5] S (uI (uI (uI (uI S 3 q (nI r)) 4 q (nI n)) 5 q (nI b)) 2 3 (nI (q + 1))) := (((((jFr.refl _ _).uI (by decide)).uI (by decide)).uI (by decide)).uI (by decide))
      have i3 : jI (uI (uI (uI (uI S 3 q (nI r)) 4 q (nI n)) 5 q (nI b)) 2 3 (nI (q + 1))) 2 3 = nI (q + 1) := by simp only [jN_uI, jN_uJ, jN_uR, jK_uI, jK_uJ, jK_uR, jZ_uI, jZ_uJ, jZ_uR, jR_uI, jR_uJ, jr_uI, jr_uJ, jI_uJ, jI_uR, jJ_uI, jJ_uR, jI_uI_eq, jI_uI_ne, jJ_uJ_eq, jJ_uJ_ne, jSh_uI, jSh_uJ, jA_uI, jA_uJ, jA_uR, jI_uIf_eq, jI_uIf_ne, jJ_uIf, jR_uIf, jr_uIf, jZ_uIf, jSh_uIf, jA_uIf, ne_eq, not_false_eq_true, not_true_eq_false, reduceCtorEq, Nat.reduceEqDiff, forall_eq, true_and, and_true, true_implies, forall_const, implies_true, List.mem_cons, List.not_mem_nil, or_false, false_or, or_self, if_true, if_false, reduceIte, Nat.reduceAdd, Nat.reduceMul, Nat.reduceLT, false_implies, Decidable.not_not, bI_eq0, bI_eq1, upd_at, updL_at, Nat.succ_ne_zero, Int32.reduceToNatClampNeg, eq_self, i01, i10]
      have i7 : jI (uI (uI (uI (uI S 3 q (nI r)) 4 q (nI n)) 5 q (nI b)) 2 3 (nI (q + 1))) 3 = upd (jI S 3) q (nI r) := by simp only [jN_uI, jN_uJ, jN_uR, jK_uI, jK_uJ, jK_uR, jZ_uI, jZ_uJ, jZ_uR, jR_uI, jR_uJ, jr_uI, jr_uJ, jI_uJ, jI_uR, jJ_uI, jJ_uR, jI_uI_eq, jI_uI_ne, jJ_uJ_eq, jJ_uJ_ne, jSh_uI, jSh_uJ, jA_uI, jA_uJ, jA_uR, jI_uIf_eq, jI_uIf_ne, jJ_uIf, jR_uIf, jr_uIf, jZ_uIf, jSh_uIf, jA_uIf, ne_eq, not_false_eq_true, not_true_eq_false, reduceCtorEq, Nat.reduceEqDiff, forall_eq, true_and, and_true, true_implies, forall_const, implies_true, List.mem_cons, List.not_mem_nil, or_false, false_or, or_self, if_true, if_false, reduceIte, Nat.reduceAdd, Nat.reduceMul, Nat.reduceLT, false_implies, Decidable.not_not, bI_eq0, bI_eq1, upd_at, updL_at, Nat.succ_ne_zero, Int32.reduceToNatClampNeg, eq_self, i01, i10]
      have i8 : jI (uI (uI (uI (uI S 3 q (nI r)) 4 q (nI n)) 5 q (nI b)) 2 3 (nI (q + 1))) 4 = upd (jI S 4) q (nI n) := by simp only [jN_uI, jN_uJ, jN_uR, jK_uI, jK_uJ, jK_uR, jZ_uI, jZ_uJ, jZ_uR, jR_uI, jR_uJ, jr_uI, jr_uJ, jI_uJ, jI_uR, jJ_uI, jJ_uR, jI_uI_eq, jI_uI_ne, jJ_uJ_eq, jJ_uJ_ne, jSh_uI, jSh_uJ, jA_uI, jA_uJ, jA_uR, jI_uIf_eq, jI_uIf_ne, jJ_uIf, jR_uIf, jr_uIf, jZ_uIf, jSh_uIf, jA_uIf, ne_eq, not_false_eq_true, not_true_eq_false, reduceCtorEq, Nat.reduceEqDiff, forall_eq, true_and, and_true, true_implies, forall_const, implies_true, List.mem_cons, List.not_mem_nil, or_false, false_or, or_self, if_true, if_false, reduceIte, Nat.reduceAdd, Nat.reduceMul, Nat.reduceLT, false_implies, Decidable.not_not, bI_eq0, bI_eq1, upd_at, updL_at, Nat.succ_ne_zero, Int32.reduceToNatClampNeg, eq_self, i01, i10]
      have i9 : jI (uI (uI (uI (uI S 3 q (nI r)) 4 q (nI n)) 5 q (nI b)) 2 3 (nI (q + 1))) 5 = upd (jI S 5) q (nI b) := by simp only [jN_uI, jN_uJ, jN_uR, jK_uI, jK_uJ, jK_uR, jZ_uI, jZ_uJ, jZ_uR, jR_uI, jR_uJ, jr_uI, jr_uJ, jI_uJ, jI_uR, jJ_uI, jJ_uR, jI_uI_eq, jI_uI_ne, jJ_uJ_eq, jJ_uJ_ne, jSh_uI, jSh_uJ, jA_uI, jA_uJ, jA_uR, jI_uIf_eq, jI_uIf_ne, jJ_uIf, jR_uIf, jr_uIf, jZ_uIf, jSh_uIf, jA_uIf, ne_eq, not_false_eq_true, not_true_eq_false, reduceCtorEq, Nat.reduceEqDiff, forall_eq, true_and, and_true, true_implies, forall_const, implies_true, List.mem_cons, List.not_mem_nil, or_false, false_or, or_self, if_true, if_false, reduceIte, Nat.reduceAdd, Nat.reduceMul, Nat.reduceLT, false_implies, Decidable.not_not, bI_eq0, bI_eq1, upd_at, updL_at, Nat.succ_ne_zero, Int32.reduceToNatClampNeg, eq_self, i01, i10]
      generalize uI (uI (uI (uI S 3 q (nI r)) 4 q (nI n)) 5 q (nI b)) 2 3 (nI (q + 1)) = S0 at g0 i3 i7 i8 i9 ⊢
      have hs0 := g0.sh.mpr hs
      refine sX1_forget hs0 hn hb (fun S1 ⟨f1, f2, f3, f4⟩ => ?_)
      have hs1 := f1.sh.mpr hs0
      have g1 : jFr [2, 3, 4, 5, 27, 28] S S1 := (g0.mono (by decide)).tr (f1.mono (by decide))
      simp only [shA_0, shA_1, shA_2, shR_0_0, shr_0_0, shR_0_1, shr_0_1, shR_0_2, shr_0_2, shR_0_3, shr_0_3, shR_0_4, shr_0_4, shR_0_5, shr_0_5, shR_0_6, shr_0_6, shR_0_7, shr_0_7, shR_0_8, shr_0_8, shR_0_9, shr_0_9, shR_1_4, shr_1_4, shR_1_5, shr_1_5, shR_1_6, shr_1_6, shR_1_9, shr_1_9, shR_1_11, shr_1_11, shR_2_0, shr_2_0, shR_2_1, shr_2_1, shR_2_2, shr_2_2, hs1, f1.I 2 (by decide), i3, ne_eq, not_false_eq_true, not_true_eq_false, reduceCtorEq, Nat.reduceEqDiff, forall_eq, true_and, and_true, true_implies, forall_const, implies_true, List.mem_cons, List.not_mem_nil, or_false, false_or, or_self, if_true, if_false, reduceIte, Nat.reduceAdd, Nat.reduceMul, Nat.reduceLT, false_implies, Decidable.not_not, bI_eq0, bI_eq1, upd_at, updL_at, Nat.succ_ne_zero, Int32.reduceToNatClampNeg, eq_self, i01, i10]
      rw [nI_s1 (by omega), Nat.add_sub_cancel]
      refine sX11_acc hI g1 hq (fun S2 Q' hA k hq' => ?_)
      unfold wX12_wed
      refine ⟨hA, fun M eM => ?_⟩
      have hM := k M eM
      have hsM := hM.1
      have eM47 : jI M 47 = jI S 47 := by rw [hM.2.1.I 47 (by decide), g1.I 47 (by decide)]
      have hrM : RowOk (jI M 47) := by rw [eM47]; exact hI.2.1.1
      refine sX12_isNight2 hn ⟨fun q => absurd q (by decide), fun _ => ?_⟩
      refine sX12_isNight2 hb ⟨fun q => absurd q (by decide), fun _ => ⟨fun _ => ⟨shA_45 hsM, ?_⟩, fun nle => absurd le nle⟩⟩
      refine sX12_isRock' hsM hrM (fun _ _ _ => ⟨fun _ => ?_, fun q => absurd q (by decide)⟩) (fun hx => absurd (rock_of hrM (by rw [eM47]; exact hr)) hx)
      have tn5 : (5 : Int32).toNatClampNeg = 5 := rfl
      simp only [shA_45, shA_47, shZ_47, shR_45_2, shr_45_2, shR_45_3, shr_45_3, shR_45_4, shr_45_4, shR_45_5, shr_45_5, shR_45_7, shr_45_7, shR_45_16, shr_45_16, shR_45_18, shr_45_18, shR_45_19, shr_45_19, shR_45_21, shr_45_21, shR_45_22, shr_45_22, shR_45_25, shr_45_25, shR_45_26, shr_45_26, shR_45_28, shr_45_28, shR_45_29, shr_45_29, shR_45_33, shr_45_33, shR_45_34, shr_45_34, shR_45_35, shr_45_35, shR_45_36, shr_45_36, shR_45_37, shr_45_37, shR_45_38, shr_45_38, shR_45_39, shr_45_39, shR_45_40, shr_45_40, shR_45_42, shr_45_42, hsM, eM47, tn5, w2, jN_uI, jN_uJ, jN_uR, jK_uI, jK_uJ, jK_uR, jZ_uI, jZ_uJ, jZ_uR, jR_uI, jR_uJ, jr_uI, jr_uJ, jI_uJ, jI_uR, jJ_uI, jJ_uR, jI_uI_eq, jI_uI_ne, jJ_uJ_eq, jJ_uJ_ne, jSh_uI, jSh_uJ, jA_uI, jA_uJ, jA_uR, jI_uIf_eq, jI_uIf_ne, jJ_uIf, jR_uIf, jr_uIf, jZ_uIf, jSh_uIf, jA_uIf, ne_eq, not_false_eq_true, not_true_eq_false, reduceCtorEq, Nat.reduceEqDiff, forall_eq, true_and, and_true, true_implies, forall_const, implies_true, List.mem_cons, List.not_mem_nil, or_false, false_or, or_self, if_true, if_false, reduceIte, Nat.reduceAdd, Nat.reduceMul, Nat.reduceLT, false_implies, Decidable.not_not, bI_eq0, bI_eq1, upd_at, updL_at, Nat.succ_ne_zero, Int32.reduceToNatClampNeg, eq_self, i01, i10]
      simp (disch := omega) only [li_68, li_3, li_2, li_1, nI_mul, nI_add, nI_tn, nI_inT, li_4, nI_eq', ne_eq, not_false_eq_true, not_true_eq_false, reduceCtorEq, Nat.reduceEqDiff, forall_eq, true_and, and_true, true_implies, forall_const, implies_true, List.mem_cons, List.not_mem_nil, or_false, false_or, or_self, if_true, if_false, reduceIte, Nat.reduceAdd, Nat.reduceMul, Nat.reduceLT, false_implies, Decidable.not_not, bI_eq0, bI_eq1, upd_at, updL_at, Nat.succ_ne_zero, Int32.reduceToNatClampNeg, eq_self, i01, i10]
      refine ⟨nI_in2 (n := 5) (by omega) (by omega), fun _ => ?_, fun e => by omega⟩
      rw [if_neg (by omega), if_neg (by omega), if_neg (by omega)]
      have vi : vp_in 5 5600 := nI_in2 (n := 5) (by omega) (by omega)
      refine ⟨vi, sX12_tell0 (by omega) hsM ?_⟩
      rw [nI_add]
      have f : jFr [0, 2, 3, 4, 5, 27, 28, 45, 47] S (uI (uI (uI (uI M 47 (68 + 3 * q) (nI r)) 47 (68 + 3 * q + 1) (nI n)) 47 (68 + 3 * q + 2) (nI b)) 47 5 (nI (q + 1))) := ((((((g1.mono (by decide)).tr (hM.2.1.mono (by decide))).uI (by decide)).uI (by decide)).uI (by decide)).uI (by decide))
      have ex : ∀ k, jI (uI (uI (uI (uI M 47 (68 + 3 * q) (nI r)) 47 (68 + 3 * q + 1) (nI n)) 47 (68 + 3 * q + 2) (nI b)) 47 5 (nI (q + 1))) 47 k = if k = 5 then nI (q + 1) else if k = 68 + 3 * q + 2 then nI b else if k = 68 + 3 * q + 1 then nI n else if k = 68 + 3 * q then nI r else jI S 47 k := fun k => by simp only [jN_uI, jN_uJ, jN_uR, jK_uI, jK_uJ, jK_uR, jZ_uI, jZ_uJ, jZ_uR, jR_uI, jR_uJ, jr_uI, jr_uJ, jI_uJ, jI_uR, jJ_uI, jJ_uR, jI_uI_eq, jI_uI_ne, jJ_uJ_eq, jJ_uJ_ne, jSh_uI, jSh_uJ, jA_uI, jA_uJ, jA_uR, jI_uIf_eq, jI_uIf_ne, jJ_uIf, jR_uIf, jr_uIf, jZ_uIf, jSh_uIf, jA_uIf, ne_eq, not_false_eq_true, not_true_eq_false, reduceCtorEq, Nat.reduceEqDiff, forall_eq, true_and, and_true, true_implies, forall_const, implies_true, List.mem_cons, List.not_mem_nil, or_false, false_or, or_self, if_true, if_false, reduceIte, Nat.reduceAdd, Nat.reduceMul, Nat.reduceLT, false_implies, Decidable.not_not, bI_eq0, bI_eq1, upd_at, updL_at, Nat.succ_ne_zero, Int32.reduceToNatClampNeg, eq_self, i01, i10, eM47, upd_at]
      have g2 : jFr [0, 45, 47] S1 (uI (uI (uI (uI M 47 (68 + 3 * q) (nI r)) 47 (68 + 3 * q + 1) (nI n)) 47 (68 + 3 * q + 2) (nI b)) 47 5 (nI (q + 1))) := (((((hM.2.1.mono (by decide)).uI (by decide)).uI (by decide)).uI (by decide)).uI (by decide))
      have fX : jFr [45, 47, 58, 59] M (uI (uI (uI (uI M 47 (68 + 3 * q) (nI r)) 47 (68 + 3 * q + 1) (nI n)) 47 (68 + 3 * q + 2) (nI b)) 47 5 (nI (q + 1))) := (((((jFr.refl _ _).uI (by decide)).uI (by decide)).uI (by decide)).uI (by decide))
      have kX : jFk 45 [9, 10, 11, 12, 14, 15, 17, 20, 23, 24, 27, 30, 31, 32, 41] M (uI (uI (uI (uI M 47 (68 + 3 * q) (nI r)) 47 (68 + 3 * q + 1) (nI n)) 47 (68 + 3 * q + 2) (nI b)) 47 5 (nI (q + 1))) := (((((jFk.refl _ _ _).oI (by decide)).oI (by decide)).oI (by decide)).oI (by decide))
      generalize uI (uI (uI (uI M 47 (68 + 3 * q) (nI r)) 47 (68 + 3 * q + 1) (nI n)) 47 (68 + 3 * q + 2) (nI b)) 47 5 (nI (q + 1)) = X at f ex g2 fX kX ⊢
      have er : ∀ k, (k ≠ 5 ∧ (k < 68 + 3 * q ∨ 68 + 3 * q + 2 < k)) → jI X 47 k = jI S 47 k := fun k hk => by rw [ex, if_neg (by omega), if_neg (by omega), if_neg (by omega), if_neg (by omega)]
      have e1 : jI X 1 = jI S 1 := f.I 1 (by decide)
      have j1 : jJ X 1 = jJ S 1 := f.J 1 (by decide)
      have e6 : jI X 47 5 = nI (q + 1) := by rw [ex, if_pos rfl]
      have n1 : jI X 47 (68 + 3 * q) = nI r := by rw [ex, if_neg (by omega), if_neg (by omega), if_neg (by omega), if_pos rfl]
      have n2 : jI X 47 (68 + 3 * q + 1) = nI n := by rw [ex, if_neg (by omega), if_neg (by omega), if_pos rfl]
      have n3 : jI X 47 (68 + 3 * q + 2) = nI b := by rw [ex, if_neg (by omega), if_pos rfl]
      have g : pW X (jI X 47) := by
        refine ⟨⟨q + 1, by omega, e6, fun i hi => ?_⟩, by rw [e6, g2.I 2 (by decide), f1.I 2 (by decide)]; exact i3, fun i hi => ?_⟩
        · rw [gR_c (er 0 (by omega))]
          by_cases e : i = q
          · subst e
            exact ⟨r, n, b, hr, leN, hb, n1, n2, n3⟩
          · rw [er _ (by omega), er _ (by omega), er _ (by omega)]
            exact w3 i (by omega)
        · rw [e6, nI_tn (by omega)] at hi
          rw [g2.I 3 (by decide), g2.I 4 (by decide), g2.I 5 (by decide), f1.I 3 (by decide), f1.I 4 (by decide), f1.I 5 (by decide), i7, i8, i9, upd_at, upd_at, upd_at]
          by_cases e : i = q
          · subst e
            rw [if_pos rfl, if_pos rfl, if_pos rfl]
            exact ⟨n1.symm, n2.symm, n3.symm⟩
          · rw [if_neg e, if_neg e, if_neg e, er _ (by omega), er _ (by omega), er _ (by omega)]
            exact cc i (by rw [w2, nI_tn (by omega)]; omega)
      have hB : BC X := by
        refine BC_wed (a := n) (b := b) hI (er 0 (by omega)) (er 1 (by omega)) (er 4 (by omega)) (fun m hm => er _ (by omega)) (fun k hk => er _ (by omega)) (fun r' m m60 hm => ?_) ?_ ?_ ?_
        · unfold gWd
          rw [e6, w2, nI_tn (by omega), nI_tn (by omega)]
          constructor
          · rintro ⟨i, y1, y2, y3, y4⟩
            by_cases e : i = q
            · subst e
              rw [n2, nI_le' (by omega) (by omega)] at y3
              rw [n3, nI_le' (by omega) (by omega)] at y4
              omega
            · rw [er _ (by omega)] at y2 y3 y4
              exact ⟨i, by omega, y2, y3, y4⟩
          · rintro ⟨i, i1, i2, i3, i4⟩
            exact ⟨i, by omega, by rw [er _ (by omega)]; exact i2, by rw [er _ (by omega)]; exact i3, by rw [er _ (by omega)]; exact i4⟩
        · intro p; rw [g2.I 27 (by decide), ← g0.I 27 (by decide)]; exact f2 p
        · intro p; rw [g2.I 28 (by decide), ← g0.I 28 (by decide)]; exact f3 p
        · intro m r' a1 a2 a3; rw [g2.I 27 (by decide), g2.I 28 (by decide)]; exact f4 m r' a1 (by omega) a3
      have fin := hI.acc2 (g1.mono (by decide)) hM fX kX (MW_iff.mpr ⟨pR.c q1 (er 0 (by omega)) (by rw [e1]), pM.c q2 (er 1 (by omega)) (by rw [e1]), pU.c q3 (er 2 (by omega)) (by rw [e1]), pL.c q4 f (by decide) (fun k _ => er k (by omega)) (er 3 (by omega)) (er 4 (by omega)) (by rw [e1]) (by rw [e1]), g, pQ.c q6 f (by decide) (er 0 (by omega)) (er 6 (by omega)) (fun k _ _ => er k (by omega)), pT.c q7 (er 0 (by omega)) (er 7 (by omega)) (fun k _ _ => er k (by omega)) (by rw [e1]) (f.I 11 (by decide)), pS.c q8 (fun k _ _ => er k (by omega)) (by rw [j1]), pG.c q9 (fun k _ _ => er k (by omega)) (f.I 12 (by decide))⟩) hB
      exact hq' _ fin.1 fin.2
    · refine sX11_ref 3 5 (Or.inr (Or.inr (Or.inr (Or.inl ⟨rfl, rfl, rfl⟩)))) hI hq (fun S1 Q' hA k => ?_)
      unfold wX12_wed
      refine ⟨hA, fun M eM => ?_⟩
      obtain ⟨hsM, hmM, eMI, kM, ht⟩ := k M eM
      have eM47 := eMI 47 (by decide)
      refine sX12_isNight2 hn ⟨fun q => absurd q (by decide), fun _ => ?_⟩
      refine sX12_isNight2 hb ⟨fun q => absurd q (by decide), fun _ => ⟨fun _ => ⟨shA_45 hsM, ?_⟩, fun nle => absurd le nle⟩⟩
      refine sX12_isRock' hsM hmM.1 (fun _ _ _ => ⟨fun _ => ?_, fun q => absurd q (by decide)⟩) (fun hx => absurd (rock_of hmM.1 (by rw [eM47]; exact hr)) hx)
      simp only [shA_45, shA_47, shZ_47, shR_45_2, shr_45_2, shR_45_3, shr_45_3, shR_45_4, shr_45_4, shR_45_5, shr_45_5, shR_45_7, shr_45_7, shR_45_16, shr_45_16, shR_45_18, shr_45_18, shR_45_19, shr_45_19, shR_45_21, shr_45_21, shR_45_22, shr_45_22, shR_45_25, shr_45_25, shR_45_26, shr_45_26, shR_45_28, shr_45_28, shR_45_29, shr_45_29, shR_45_33, shr_45_33, shR_45_34, shr_45_34, shR_45_35, shr_45_35, shR_45_36, shr_45_36, shR_45_37, shr_45_37, shR_45_38, shr_45_38, shR_45_39, shr_45_39, shR_45_40, shr_45_40, shR_45_42, shr_45_42, hsM, eM47, vpin_2, vpin_3, vpin_4, vpin_5, vpin_6, vpin_7, vpin_9, vpin_12, vpin_13, vpin_16, vpin_32, vpin_60, vpin_96, vpin_400, vpin_401, vpin_540, vpin_4320, vpin_4608, vpin_5600, vpin_11200, vpin_276480, w2, e4, jN_uI, jN_uJ, jN_uR, jK_uI, jK_uJ, jK_uR, jZ_uI, jZ_uJ, jZ_uR, jR_uI, jR_uJ, jr_uI, jr_uJ, jI_uJ, jI_uR, jJ_uI, jJ_uR, jI_uI_eq, jI_uI_ne, jJ_uJ_eq, jJ_uJ_ne, jSh_uI, jSh_uJ, jA_uI, jA_uJ, jA_uR, jI_uIf_eq, jI_uIf_ne, jJ_uIf, jR_uIf, jr_uIf, jZ_uIf, jSh_uIf, jA_uIf, ne_eq, not_false_eq_true, not_true_eq_false, reduceCtorEq, Nat.reduceEqDiff, forall_eq, true_and, and_true, true_implies, forall_const, implies_true, List.mem_cons, List.not_mem_nil, or_false, false_or, or_self, if_true, if_false, reduceIte, Nat.reduceAdd, Nat.reduceMul, Nat.reduceLT, false_implies, Decidable.not_not, bI_eq0, bI_eq1, upd_at, updL_at, Nat.succ_ne_zero, Int32.reduceToNatClampNeg, eq_self, i01, i10]
      exact ⟨by decide, fun e => absurd rfl e, fun _ => ht⟩
  · refine sX11_ref 1 2 (Or.inr (Or.inl ⟨rfl, rfl, rfl⟩)) hI hq (fun S1 Q' hA k => ?_)
    unfold wX12_wed
    refine ⟨hA, fun M eM => ?_⟩
    obtain ⟨hsM, hmM, eMI, kM, ht⟩ := k M eM
    have eM47 := eMI 47 (by decide)
    refine sX12_isNight2 hn ⟨fun q => absurd q (by decide), fun _ => ?_⟩
    refine sX12_isNight2 hb ⟨fun q => absurd q (by decide), fun _ => ⟨fun _ => ⟨shA_45 hsM, ?_⟩, fun nle => absurd le nle⟩⟩
    refine sX12_isRock' hsM hmM.1 (fun a ha ea => ?_) (fun _ => ⟨fun q => absurd rfl q, fun _ => ⟨shA_45 hsM, ht⟩⟩)
    rw [ea] at hx
    exact absurd (rock_of hI.2.1.1 (by rw [eM47] at ha; exact ha)) hx
theorem q_jilt {S : JS} {Q : Int32 → JS → Prop} {x : Int32} (hI : Inv S) (hq : ∀ r S1, Mdl (wX12_jilt 45 x) S r S1 → Q r S1) : wX11_jilt 0 x S Q := by
  have hs := hI.1
  obtain ⟨q1, q2, q3, q4, q5, q6, q7, q8, q9⟩ := MW_iff.mp hI.2.1
  obtain ⟨⟨q, w1, w2, w3⟩, c3, cc⟩ := id q5
  rw [w2] at c3
  unfold wX11_jilt
  simp only [shA_0, shA_1, shA_2, shR_0_0, shr_0_0, shR_0_1, shr_0_1, shR_0_2, shr_0_2, shR_0_3, shr_0_3, shR_0_4, shr_0_4, shR_0_5, shr_0_5, shR_0_6, shr_0_6, shR_0_7, shr_0_7, shR_0_8, shr_0_8, shR_0_9, shr_0_9, shR_1_4, shr_1_4, shR_1_5, shr_1_5, shR_1_6, shr_1_6, shR_1_9, shr_1_9, shR_1_11, shr_1_11, shR_2_0, shr_2_0, shR_2_1, shr_2_1, shR_2_2, shr_2_2, hs, ne_eq, not_false_eq_true, not_true_eq_false, reduceCtorEq, Nat.reduceEqDiff, forall_eq, true_and, and_true, true_implies, forall_const, implies_true, List.mem_cons, List.not_mem_nil, or_false, false_or, or_self, if_true, if_false, reduceIte, Nat.reduceAdd, Nat.reduceMul, Nat.reduceLT, false_implies, Decidable.not_not, bI_eq0, bI_eq1, upd_at, updL_at, Nat.succ_ne_zero, Int32.reduceToNatClampNeg, eq_self, i01, i10]
  refine sX8_has (shA_2 hs) c3 (by omega) (fun k hk ek => ⟨fun _ => ?_, fun y => absurd y (by decide)⟩) (fun hx => ⟨fun y => absurd rfl y, fun _ => ⟨shA_0 hs, ?_⟩⟩)
  · subst ek
    obtain ⟨r, a, b, u1, u2, u3, u4, u5, u6⟩ := w3 k hk
    obtain ⟨v1, v2, v3⟩ := cc k (by rw [w2, nI_tn (by omega)]; exact hk)
    simp only [shA_0, shA_1, shA_2, shA_4, shZ_4, shA_5, shZ_5, shA_23, shR_0_0, shr_0_0, shR_0_1, shr_0_1, shR_0_2, shr_0_2, shR_0_3, shr_0_3, shR_0_4, shr_0_4, shR_0_5, shr_0_5, shR_0_6, shr_0_6, shR_0_7, shr_0_7, shR_0_8, shr_0_8, shR_0_9, shr_0_9, shR_1_4, shr_1_4, shR_1_5, shr_1_5, shR_1_6, shr_1_6, shR_1_9, shr_1_9, shR_1_11, shr_1_11, shR_2_0, shr_2_0, shR_2_1, shr_2_1, shR_2_2, shr_2_2, shR_23_0, shr_23_0, shR_23_1, shr_23_1, shR_23_2, shr_23_2, hs, ne_eq, not_false_eq_true, not_true_eq_false, reduceCtorEq, Nat.reduceEqDiff, forall_eq, true_and, and_true, true_implies, forall_const, implies_true, List.mem_cons, List.not_mem_nil, or_false, false_or, or_self, if_true, if_false, reduceIte, Nat.reduceAdd, Nat.reduceMul, Nat.reduceLT, false_implies, Decidable.not_not, bI_eq0, bI_eq1, upd_at, updL_at, Nat.succ_ne_zero, Int32.reduceToNatClampNeg, eq_self, i01, i10]
    rw [nI_tn (by omega), v2, v3, u5, u6]
    refine ⟨nI_in2 (by omega) (by omega), nI_in2 (by omega) (by omega), sX1_forget hs (by omega) (by omega) (fun S0 ⟨f1, f2, f3, f4⟩ => ?_)⟩
    have hs0 := f1.sh.mpr hs
    simp only [shA_0, shA_1, shA_2, shR_0_0, shr_0_0, shR_0_1, shr_0_1, shR_0_2, shr_0_2, shR_0_3, shr_0_3, shR_0_4, shr_0_4, shR_0_5, shr_0_5, shR_0_6, shr_0_6, shR_0_7, shr_0_7, shR_0_8, shr_0_8, shR_0_9, shr_0_9, shR_1_4, shr_1_4, shR_1_5, shr_1_5, shR_1_6, shr_1_6, shR_1_9, shr_1_9, shR_1_11, shr_1_11, shR_2_0, shr_2_0, shR_2_1, shr_2_1, shR_2_2, shr_2_2, hs0, ne_eq, not_false_eq_true, not_true_eq_false, reduceCtorEq, Nat.reduceEqDiff, forall_eq, true_and, and_true, true_implies, forall_const, implies_true, List.mem_cons, List.not_mem_nil, or_false, false_or, or_self, if_true, if_false, reduceIte, Nat.reduceAdd, Nat.reduceMul, Nat.reduceLT, false_implies, Decidable.not_not, bI_eq0, bI_eq1, upd_at, updL_at, Nat.succ_ne_zero, Int32.reduceToNatClampNeg, eq_self, i01, i10]
    refine sX8_drop (T8_w hs0) (by rw [f1.I 2 (by decide)]; exact c3) w1 hk (fun S1 g1' i3 ii => ?_)
    rw [f1.I 3 (by decide), f1.I 4 (by decide), f1.I 5 (by decide)] at ii
    have g1 : jFr [2, 3, 4, 5, 27, 28] S S1 := (f1.mono (by decide)).tr (g1'.mono (by decide))
    have hs1 := g1.sh.mpr hs
    simp only [shA_0, shA_1, shA_2, shR_0_0, shr_0_0, shR_0_1, shr_0_1, shR_0_2, shr_0_2, shR_0_3, shr_0_3, shR_0_4, shr_0_4, shR_0_5, shr_0_5, shR_0_6, shr_0_6, shR_0_7, shr_0_7, shR_0_8, shr_0_8, shR_0_9, shr_0_9, shR_1_4, shr_1_4, shR_1_5, shr_1_5, shR_1_6, shr_1_6, shR_1_9, shr_1_9, shR_1_11, shr_1_11, shR_2_0, shr_2_0, shR_2_1, shr_2_1, shR_2_2, shr_2_2, hs1, ne_eq, not_false_eq_true, not_true_eq_false, reduceCtorEq, Nat.reduceEqDiff, forall_eq, true_and, and_true, true_implies, forall_const, implies_true, List.mem_cons, List.not_mem_nil, or_false, false_or, or_self, if_true, if_false, reduceIte, Nat.reduceAdd, Nat.reduceMul, Nat.reduceLT, false_implies, Decidable.not_not, bI_eq0, bI_eq1, upd_at, updL_at, Nat.succ_ne_zero, Int32.reduceToNatClampNeg, eq_self, i01, i10]
    refine sX11_acc hI g1 hq (fun S2 Q' hA kk hq' => ?_)
    rw [i3] at hq'
    unfold wX12_jilt
    refine ⟨hA, fun M eM => ?_⟩
    have hM := kk M eM
    have hsM := hM.1
    have eM47 : jI M 47 = jI S 47 := by rw [hM.2.1.I 47 (by decide), g1.I 47 (by decide)]
    simp only [shA_45, shA_47, shZ_47, shR_45_2, shr_45_2, shR_45_3, shr_45_3, shR_45_4, shr_45_4, shR_45_5, shr_45_5, shR_45_7, shr_45_7, shR_45_16, shr_45_16, shR_45_18, shr_45_18, shR_45_19, shr_45_19, shR_45_21, shr_45_21, shR_45_22, shr_45_22, shR_45_25, shr_45_25, shR_45_26, shr_45_26, shR_45_28, shr_45_28, shR_45_29, shr_45_29, shR_45_33, shr_45_33, shR_45_34, shr_45_34, shR_45_35, shr_45_35, shR_45_36, shr_45_36, shR_45_37, shr_45_37, shR_45_38, shr_45_38, shR_45_39, shr_45_39, shR_45_40, shr_45_40, shR_45_42, shr_45_42, hsM, eM47, vpin_2, vpin_3, vpin_4, vpin_5, vpin_6, vpin_7, vpin_9, vpin_12, vpin_13, vpin_16, vpin_32, vpin_60, vpin_96, vpin_400, vpin_401, vpin_540, vpin_4320, vpin_4608, vpin_5600, vpin_11200, vpin_276480, w2, ne_eq, not_false_eq_true, not_true_eq_false, reduceCtorEq, Nat.reduceEqDiff, forall_eq, true_and, and_true, true_implies, forall_const, implies_true, List.mem_cons, List.not_mem_nil, or_false, false_or, or_self, if_true, if_false, reduceIte, Nat.reduceAdd, Nat.reduceMul, Nat.reduceLT, false_implies, Decidable.not_not, bI_eq0, bI_eq1, upd_at, updL_at, Nat.succ_ne_zero, Int32.reduceToNatClampNeg, eq_self, i01, i10]
    refine ⟨by decide, sX12_in' 0 (nI q - 1) rfl (m1_64 q (by omega)) (fun _ _ => ⟨fun _ => ?_, fun y => absurd y (by decide)⟩) (fun hx => absurd ⟨nI_nn (by omega), ?_⟩ hx)⟩
    · unfold wX12_jilt_25
      rw [li_68, li_3, nI_mul, nI_add]
      refine jLoop.cnt 77 (fun c s => ∃ X, s = (45, nI c, X) ∧ 68 + 3 * k ≤ c ∧ jFr [47] M X ∧ shP (jI S 47) (jI X 47) (68 + 3 * k) c) (68 + 3 * k) (by omega) ?_ ⟨M, rfl, Nat.le_refl _, jFr.refl _ _, fun j => by rw [if_neg (by omega), eM47]⟩
      rintro c _ hc ⟨X, rfl, hc2, fX, sX⟩
      have hsX := fX.sh.mpr hsM
      have e6 : jI X 47 5 = nI q := by rw [sX, if_neg (by omega)]; exact w2
      have tn6 : (5 : Int32).toNatClampNeg = 5 := rfl
      have vi : vp_in 5 5600 := nI_in2 (n := 5) (by omega) (by omega)
      unfold bX12_jilt_25
      simp only [shA_45, shA_47, shZ_47, shR_45_2, shr_45_2, shR_45_3, shr_45_3, shR_45_4, shr_45_4, shR_45_5, shr_45_5, shR_45_7, shr_45_7, shR_45_16, shr_45_16, shR_45_18, shr_45_18, shR_45_19, shr_45_19, shR_45_21, shr_45_21, shR_45_22, shr_45_22, shR_45_25, shr_45_25, shR_45_26, shr_45_26, shR_45_28, shr_45_28, shR_45_29, shr_45_29, shR_45_33, shr_45_33, shR_45_34, shr_45_34, shR_45_35, shr_45_35, shR_45_36, shr_45_36, shR_45_37, shr_45_37, shR_45_38, shr_45_38, shR_45_39, shr_45_39, shR_45_40, shr_45_40, shR_45_42, shr_45_42, hsX, tn6, vi, e6, jN_uI, jN_uJ, jN_uR, jK_uI, jK_uJ, jK_uR, jZ_uI, jZ_uJ, jZ_uR, jR_uI, jR_uJ, jr_uI, jr_uJ, jI_uJ, jI_uR, jJ_uI, jJ_uR, jI_uI_eq, jI_uI_ne, jJ_uJ_eq, jJ_uJ_ne, jSh_uI, jSh_uJ, jA_uI, jA_uJ, jA_uR, jI_uIf_eq, jI_uIf_ne, jJ_uIf, jR_uIf, jr_uIf, jZ_uIf, jSh_uIf, jA_uIf, ne_eq, not_false_eq_true, not_true_eq_false, reduceCtorEq, Nat.reduceEqDiff, forall_eq, true_and, and_true, true_implies, forall_const, implies_true, List.mem_cons, List.not_mem_nil, or_false, false_or, or_self, if_true, if_false, reduceIte, Nat.reduceAdd, Nat.reduceMul, Nat.reduceLT, false_implies, Decidable.not_not, bI_eq0, bI_eq1, upd_at, updL_at, Nat.succ_ne_zero, Int32.reduceToNatClampNeg, eq_self, i01, i10]
      simp (disch := omega) only [li_3, nI_1, nI_add, nI_tn, nI_inT, li_77, nI_le', ne_eq, not_false_eq_true, not_true_eq_false, reduceCtorEq, Nat.reduceEqDiff, forall_eq, true_and, and_true, true_implies, forall_const, implies_true, List.mem_cons, List.not_mem_nil, or_false, false_or, or_self, if_true, if_false, reduceIte, Nat.reduceAdd, Nat.reduceMul, Nat.reduceLT, false_implies, Decidable.not_not, bI_eq0, bI_eq1, upd_at, updL_at, Nat.succ_ne_zero, Int32.reduceToNatClampNeg, eq_self, i01, i10]
      refine ⟨fun e => ?_, fun e => ⟨by omega, _, rfl, by omega, fX.uI (by decide), fun j => ?_⟩⟩
      · have : c = 77 := by omega
        subst this
        rw [nI_s1 (by omega)]
        refine sX12_tell0 (by omega) hsX ?_
        have f : jFr [0, 2, 3, 4, 5, 27, 28, 45, 47] S (uI X 47 5 (nI (q - 1))) := (((g1.mono (by decide)).tr (hM.2.1.mono (by decide))).tr (fX.mono (by decide))).uI (by decide)
        have g2 : jFr [0, 45, 47] S1 (uI X 47 5 (nI (q - 1))) := ((hM.2.1.mono (by decide)).tr (fX.mono (by decide))).uI (by decide)
        have fX2 : jFr [45, 47, 58, 59] M (uI X 47 5 (nI (q - 1))) := (fX.mono (by decide)).uI (by decide)
        have kX : jFk 45 [9, 10, 11, 12, 14, 15, 17, 20, 23, 24, 27, 30, 31, 32, 41] M (uI X 47 5 (nI (q - 1))) := (jFk.of fX (by decide)).oI (by decide)
        have ex : ∀ j, jI (uI X 47 5 (nI (q - 1))) 47 j = if j = 5 then nI (q - 1) else if 68 + 3 * k ≤ j ∧ j < 77 then jI S 47 (j + 3) else jI S 47 j := fun j => by simp only [jN_uI, jN_uJ, jN_uR, jK_uI, jK_uJ, jK_uR, jZ_uI, jZ_uJ, jZ_uR, jR_uI, jR_uJ, jr_uI, jr_uJ, jI_uJ, jI_uR, jJ_uI, jJ_uR, jI_uI_eq, jI_uI_ne, jJ_uJ_eq, jJ_uJ_ne, jSh_uI, jSh_uJ, jA_uI, jA_uJ, jA_uR, jI_uIf_eq, jI_uIf_ne, jJ_uIf, jR_uIf, jr_uIf, jZ_uIf, jSh_uIf, jA_uIf, ne_eq, not_false_eq_true, not_true_eq_false, reduceCtorEq, Nat.reduceEqDiff, forall_eq, true_and, and_true, true_implies, forall_const, implies_true, List.mem_cons, List.not_mem_nil, or_false, false_or, or_self, if_true, if_false, reduceIte, Nat.reduceAdd, Nat.reduceMul, Nat.reduceLT, false_implies, Decidable.not_not, bI_eq0, bI_eq1, upd_at, updL_at, Nat.succ_ne_zero, Int32.reduceToNatClampNeg, eq_self, i01, i10, upd_at]; rw [sX]
        generalize uI X 47 5 (nI (q - 1)) = Y at f g2 fX2 kX ex ⊢
        have er : ∀ j, (j ≠ 5 ∧ (j < 68 + 3 * k ∨ 77 ≤ j)) → jI Y 47 j = jI S 47 j := fun j hj => by rw [ex, if_neg (by omega), if_neg (by omega)]
        have er3 : ∀ j, 68 + 3 * k ≤ j → j < 77 → jI Y 47 j = jI S 47 (j + 3) := fun j h1 h2 => by rw [ex, if_neg (by omega), if_pos ⟨h1, h2⟩]
        have e1 : jI Y 1 = jI S 1 := f.I 1 (by decide)
        have j1 : jJ Y 1 = jJ S 1 := f.J 1 (by decide)
        have e6 : jI Y 47 5 = nI (q - 1) := by rw [ex, if_pos rfl]
        have g : pW Y (jI Y 47) := by
          refine ⟨⟨q - 1, by omega, e6, fun i hi => ?_⟩, by rw [e6, g2.I 2 (by decide)]; exact i3, fun i hi => ?_⟩
          · rw [gR_c (er 0 (by omega))]
            rcases Nat.lt_or_ge i k with l | l
            · rw [er _ (by omega), er _ (by omega), er _ (by omega)]
              exact w3 i (by omega)
            · rw [er3 _ (by omega) (by omega), er3 _ (by omega) (by omega), er3 _ (by omega) (by omega)]
              exact w3 (i + 1) (by omega)
          · rw [e6, nI_tn (by omega)] at hi
            rw [g2.I 3 (by decide), g2.I 4 (by decide), g2.I 5 (by decide)]
            obtain ⟨v1, v2, v3⟩ := ii i hi
            rw [v1, v2, v3]
            rcases Nat.lt_or_ge i k with l | l
            · rw [if_pos l, if_pos l, if_pos l, er _ (by omega), er _ (by omega), er _ (by omega)]
              exact cc i (by rw [w2, nI_tn (by omega)]; omega)
            · rw [if_neg (by omega), if_neg (by omega), if_neg (by omega), er3 _ (by omega) (by omega), er3 _ (by omega) (by omega), er3 _ (by omega) (by omega)]
              exact cc (i + 1) (by rw [w2, nI_tn (by omega)]; omega)
        have hB : BC Y := by
          refine BC_wed (a := a) (b := b) hI (er 0 (by omega)) (er 1 (by omega)) (er 4 (by omega)) (fun m hm => er _ (by omega)) (fun k hk => er _ (by omega)) (fun r' m m60 hm => ?_) ?_ ?_ ?_
          · unfold gWd
            rw [e6, w2, nI_tn (by omega), nI_tn (by omega)]
            constructor
            · rintro ⟨i, i1, i2, i3, i4⟩
              rcases Nat.lt_or_ge i k with l | l
              · rw [er _ (by omega)] at i2 i3 i4
                exact ⟨i, by omega, i2, i3, i4⟩
              · rw [er3 _ (by omega) (by omega)] at i2 i3 i4
                exact ⟨i + 1, by omega, i2, i3, i4⟩
            · rintro ⟨i, i1, i2, i3, i4⟩
              rcases Nat.lt_or_ge i k with l | l
              · exact ⟨i, by omega, by rw [er _ (by omega)]; exact i2, by rw [er _ (by omega)]; exact i3, by rw [er _ (by omega)]; exact i4⟩
              · by_cases e : i = k
                · subst e
                  rw [u5] at i3
                  rw [u6] at i4
                  rw [nI_le' (by omega) (by omega)] at i3
                  rw [nI_le' (by omega) (by omega)] at i4
                  omega
                · obtain ⟨i', rfl⟩ : ∃ i', i = i' + 1 := ⟨i - 1, by omega⟩
                  exact ⟨i', by omega, by rw [er3 _ (by omega) (by omega)]; exact i2, by rw [er3 _ (by omega) (by omega)]; exact i3, by rw [er3 _ (by omega) (by omega)]; exact i4⟩
          · intro p; rw [g2.I 27 (by decide), g1'.I 27 (by decide)]; exact f2 p
          · intro p; rw [g2.I 28 (by decide), g1'.I 28 (by decide)]; exact f3 p
          · intro m r' a1 a2 a3; rw [g2.I 27 (by decide), g2.I 28 (by decide), g1'.I 27 (by decide), g1'.I 28 (by decide)]; exact f4 m r' a1 (by omega) a3
        have fin := hI.acc2 (g1.mono (by decide)) hM fX2 kX (MW_iff.mpr ⟨pR.c q1 (er 0 (by omega)) (by rw [e1]), pM.c q2 (er 1 (by omega)) (by rw [e1]), pU.c q3 (er 2 (by omega)) (by rw [e1]), pL.c q4 f (by decide) (fun k _ => er k (by omega)) (er 3 (by omega)) (er 4 (by omega)) (by rw [e1]) (by rw [e1]), g, pQ.c q6 f (by decide) (er 0 (by omega)) (er 6 (by omega)) (fun k _ _ => er k (by omega)), pT.c q7 (er 0 (by omega)) (er 7 (by omega)) (fun k _ _ => er k (by omega)) (by rw [e1]) (f.I 11 (by decide)), pS.c q8 (fun k _ _ => er k (by omega)) (by rw [j1]), pG.c q9 (fun k _ _ => er k (by omega)) (f.I 12 (by decide))⟩) hB
        exact hq' _ fin.1 fin.2
      · simp only [jN_uI, jN_uJ, jN_uR, jK_uI, jK_uJ, jK_uR, jZ_uI, jZ_uJ, jZ_uR, jR_uI, jR_uJ, jr_uI, jr_uJ, jI_uJ, jI_uR, jJ_uI, jJ_uR, jI_uI_eq, jI_uI_ne, jJ_uJ_eq, jJ_uJ_ne, jSh_uI, jSh_uJ, jA_uI, jA_uJ, jA_uR, jI_uIf_eq, jI_uIf_ne, jJ_uIf, jR_uIf, jr_uIf, jZ_uIf, jSh_uIf, jA_uIf, ne_eq, not_false_eq_true, not_true_eq_false, reduceCtorEq, Nat.reduceEqDiff, forall_eq, true_and, and_true, true_implies, forall_const, implies_true, List.mem_cons, List.not_mem_nil, or_false, false_or, or_self, if_true, if_false, reduceIte, Nat.reduceAdd, Nat.reduceMul, Nat.reduceLT, false_implies, Decidable.not_not, bI_eq0, bI_eq1, upd_at, updL_at, Nat.succ_ne_zero, Int32.reduceToNatClampNeg, eq_self, i01, i10, upd_at]
        rw [sX, sX]
        by_cases e2 : j = c
        · subst e2; rw [if_pos rfl, if_neg (show ¬ (68 + 3 * k ≤ j + 3 ∧ j + 3 < j) by omega), if_pos (show 68 + 3 * k ≤ j ∧ j < j + 1 by omega)]
        · rw [if_neg e2]
          have : (68 + 3 * k ≤ j ∧ j < c + 1) ↔ (68 + 3 * k ≤ j ∧ j < c) := by omega
          simp only [this]
    · rw [nI_s1 (by omega), nI_le' (by omega) (by omega)]; omega
  · refine sX11_ref 1 2 (Or.inr (Or.inl ⟨rfl, rfl, rfl⟩)) hI hq (fun S1 Q' hA k => ?_)
    unfold wX12_jilt
    refine ⟨hA, fun M eM => ?_⟩
    obtain ⟨hsM, hmM, eMI, kM, ht⟩ := k M eM
    simp only [shA_45, shA_47, shZ_47, shR_45_2, shr_45_2, shR_45_3, shr_45_3, shR_45_4, shr_45_4, shR_45_5, shr_45_5, shR_45_7, shr_45_7, shR_45_16, shr_45_16, shR_45_18, shr_45_18, shR_45_19, shr_45_19, shR_45_21, shr_45_21, shR_45_22, shr_45_22, shR_45_25, shr_45_25, shR_45_26, shr_45_26, shR_45_28, shr_45_28, shR_45_29, shr_45_29, shR_45_33, shr_45_33, shR_45_34, shr_45_34, shR_45_35, shr_45_35, shR_45_36, shr_45_36, shR_45_37, shr_45_37, shR_45_38, shr_45_38, shR_45_39, shr_45_39, shR_45_40, shr_45_40, shR_45_42, shr_45_42, hsM, eMI 47 (by decide), vpin_2, vpin_3, vpin_4, vpin_5, vpin_6, vpin_7, vpin_9, vpin_12, vpin_13, vpin_16, vpin_32, vpin_60, vpin_96, vpin_400, vpin_401, vpin_540, vpin_4320, vpin_4608, vpin_5600, vpin_11200, vpin_276480, w2, ne_eq, not_false_eq_true, not_true_eq_false, reduceCtorEq, Nat.reduceEqDiff, forall_eq, true_and, and_true, true_implies, forall_const, implies_true, List.mem_cons, List.not_mem_nil, or_false, false_or, or_self, if_true, if_false, reduceIte, Nat.reduceAdd, Nat.reduceMul, Nat.reduceLT, false_implies, Decidable.not_not, bI_eq0, bI_eq1, upd_at, updL_at, Nat.succ_ne_zero, Int32.reduceToNatClampNeg, eq_self, i01, i10]
    exact ⟨by decide, sX12_in' 0 (nI q - 1) rfl (m1_64 q (by omega)) (fun a b => absurd ⟨a, b⟩ hx) (fun _ => ⟨fun y => absurd rfl y, fun _ => ⟨shA_45 hsM, ht⟩⟩)⟩
