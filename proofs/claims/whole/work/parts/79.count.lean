/-! COUNT -/
theorem ml_count {M : JS} {Q : Int32 → JS → Prop} {x : Int32} {J : Nat} (hs : jSh M) (hr : ∀ n, n < 60 → jI M 47 (8 + n) = nI (J / 2 ^ n % 2)) (h : ∀ X, bX12_count_7 X 45 x (nI (bs 60 J)) (nI 60) M Q) : wX12_count_7 45 x 0 0 M Q := by
  unfold wX12_count_7
  refine jLoop.cnt 60 (fun c q => q = (45, x, nI (bs c J), nI c, M)) 0 (by omega) ?_ rfl
  rintro c _ hc rfl
  rcases Nat.lt_or_ge c 60 with l | l
  · unfold bX12_count_7
    refine ⟨fun z => ?_, fun _ => ?_⟩
    · rw [li_59, nI_lt' (by omega) (by omega)] at z; omega
    · have bl := bs_le c J
      simp only [shA_45, shA_47, shZ_47, shR_45_2, shr_45_2, shR_45_3, shr_45_3, shR_45_4, shr_45_4, shR_45_5, shr_45_5, shR_45_7, shr_45_7, shR_45_16, shr_45_16, shR_45_18, shr_45_18, shR_45_19, shr_45_19, shR_45_21, shr_45_21, shR_45_22, shr_45_22, shR_45_25, shr_45_25, shR_45_26, shr_45_26, shR_45_28, shr_45_28, shR_45_29, shr_45_29, shR_45_33, shr_45_33, shR_45_34, shr_45_34, shR_45_35, shr_45_35, shR_45_36, shr_45_36, shR_45_37, shr_45_37, shR_45_38, shr_45_38, shR_45_39, shr_45_39, shR_45_40, shr_45_40, shR_45_42, shr_45_42, hs, nI_1, ne_eq, not_false_eq_true, not_true_eq_false, reduceCtorEq, Nat.reduceEqDiff, forall_eq, true_and, and_true, true_implies, forall_const, implies_true, List.mem_cons, List.not_mem_nil, or_false, false_or, or_self, if_true, if_false, reduceIte, Nat.reduceAdd, Nat.reduceMul, Nat.reduceLT, false_implies, Decidable.not_not, bI_eq0, bI_eq1, upd_at, updL_at, Nat.succ_ne_zero, Int32.reduceToNatClampNeg, eq_self, i01, i10]
      simp (disch := omega) only [li_8, nI_add, nI_tn, nI_inT, hr c l, ne_eq, not_false_eq_true, not_true_eq_false, reduceCtorEq, Nat.reduceEqDiff, forall_eq, true_and, and_true, true_implies, forall_const, implies_true, List.mem_cons, List.not_mem_nil, or_false, false_or, or_self, if_true, if_false, reduceIte, Nat.reduceAdd, Nat.reduceMul, Nat.reduceLT, false_implies, Decidable.not_not, bI_eq0, bI_eq1, upd_at, updL_at, Nat.succ_ne_zero, Int32.reduceToNatClampNeg, eq_self, i01, i10]
      rw [bs_s]
      exact ⟨l, rfl⟩
  · have : c = 60 := by omega
    subst this
    exact h _
theorem q_count {S : JS} {Q : Int32 → JS → Prop} {x : Int32} (hI : Inv S) (hq : ∀ r S1, Mdl (wX12_count 45 x) S r S1 → Q r S1) : wX11_count 0 x S Q := by
  have hs := hI.1
  have hI0 := hI.t0
  obtain ⟨q1, q2, q3, q4, q5, q6, q7, q8, q9⟩ := MW_iff.mp hI.2.1
  obtain ⟨⟨t, t1, t2, t3⟩, c10, c11⟩ := id q7
  obtain ⟨u, u1, u2, u3, u4⟩ := hI.2.2.2.2.1
  obtain ⟨⟨f1, f2, f3, f4, f5⟩, f6⟩ := hI.2.2.2.2.2.1
  have e47 : jI (uI S 45 0 0) 47 = jI S 47 := by simp only [jN_uI, jN_uJ, jN_uR, jK_uI, jK_uJ, jK_uR, jZ_uI, jZ_uJ, jZ_uR, jR_uI, jR_uJ, jr_uI, jr_uJ, jI_uJ, jI_uR, jJ_uI, jJ_uR, jI_uI_eq, jI_uI_ne, jJ_uJ_eq, jJ_uJ_ne, jSh_uI, jSh_uJ, jA_uI, jA_uJ, jA_uR, jI_uIf_eq, jI_uIf_ne, jJ_uIf, jR_uIf, jr_uIf, jZ_uIf, jSh_uIf, jA_uIf, ne_eq, not_false_eq_true, not_true_eq_false, reduceCtorEq, Nat.reduceEqDiff, forall_eq, true_and, and_true, true_implies, forall_const, implies_true, List.mem_cons, List.not_mem_nil, or_false, false_or, or_self, if_true, if_false, reduceIte, Nat.reduceAdd, Nat.reduceMul, Nat.reduceLT, false_implies, Decidable.not_not, bI_eq0, bI_eq1, upd_at, updL_at, Nat.succ_ne_zero, Int32.reduceToNatClampNeg, eq_self, i01, i10]
  have e46 : jI (uI S 45 0 0) 46 = jI S 46 := by simp only [jN_uI, jN_uJ, jN_uR, jK_uI, jK_uJ, jK_uR, jZ_uI, jZ_uJ, jZ_uR, jR_uI, jR_uJ, jr_uI, jr_uJ, jI_uJ, jI_uR, jJ_uI, jJ_uR, jI_uI_eq, jI_uI_ne, jJ_uJ_eq, jJ_uJ_ne, jSh_uI, jSh_uJ, jA_uI, jA_uJ, jA_uR, jI_uIf_eq, jI_uIf_ne, jJ_uIf, jR_uIf, jr_uIf, jZ_uIf, jSh_uIf, jA_uIf, ne_eq, not_false_eq_true, not_true_eq_false, reduceCtorEq, Nat.reduceEqDiff, forall_eq, true_and, and_true, true_implies, forall_const, implies_true, List.mem_cons, List.not_mem_nil, or_false, false_or, or_self, if_true, if_false, reduceIte, Nat.reduceAdd, Nat.reduceMul, Nat.reduceLT, false_implies, Decidable.not_not, bI_eq0, bI_eq1, upd_at, updL_at, Nat.succ_ne_zero, Int32.reduceToNatClampNeg, eq_self, i01, i10]
  have e8 : jI (uI S 45 0 0) 45 8 = jI S 14 1 := by simp only [jN_uI, jN_uJ, jN_uR, jK_uI, jK_uJ, jK_uR, jZ_uI, jZ_uJ, jZ_uR, jR_uI, jR_uJ, jr_uI, jr_uJ, jI_uJ, jI_uR, jJ_uI, jJ_uR, jI_uI_eq, jI_uI_ne, jJ_uJ_eq, jJ_uJ_ne, jSh_uI, jSh_uJ, jA_uI, jA_uJ, jA_uR, jI_uIf_eq, jI_uIf_ne, jJ_uIf, jR_uIf, jr_uIf, jZ_uIf, jSh_uIf, jA_uIf, ne_eq, not_false_eq_true, not_true_eq_false, reduceCtorEq, Nat.reduceEqDiff, forall_eq, true_and, and_true, true_implies, forall_const, implies_true, List.mem_cons, List.not_mem_nil, or_false, false_or, or_self, if_true, if_false, reduceIte, Nat.reduceAdd, Nat.reduceMul, Nat.reduceLT, false_implies, Decidable.not_not, bI_eq0, bI_eq1, upd_at, updL_at, Nat.succ_ne_zero, Int32.reduceToNatClampNeg, eq_self, i01, i10]; rw [u3, u2]
  have hsM := hI0.1
  have bit : ∀ n, n < 60 → jI S 47 (8 + n) = nI (uN (jJ S 1 3) / 2 ^ n % 2) := fun n hn => by
    rw [← q8.2.1 n hn, cSt_eq (by omega), uN_bj]
    rcases (by omega : uN (jJ S 1 3) / 2 ^ n % 2 = 0 ∨ uN (jJ S 1 3) / 2 ^ n % 2 = 1) with e | e <;> rw [e] <;> rfl
  have hi : ∀ n, 60 ≤ n → n < 64 → uN (jJ S 1 3) / 2 ^ n % 2 = 0 := fun n h1 h2 => by
    have := q8.2.2 n h1 h2
    rw [uN_bj, decide_eq_false_iff_not] at this
    omega
  have b64 : bs 64 (uN (jJ S 1 3)) = bs 60 (uN (jJ S 1 3)) := by
    rw [bs_s 63, bs_s 62, bs_s 61, bs_s 60, hi 63 (by omega) (by omega), hi 62 (by omega) (by omega), hi 61 (by omega) (by omega), hi 60 (by omega) (by omega), Nat.add_zero]
  have fin : jN (uI S 45 0 0) ≤ jN S + 12 := Nat.le_add_right _ _
  have mdl : ∀ r, (∀ X Q', Q' r (uI S 45 0 0) → bX12_count_7 X 45 x (nI (bs 60 (uN (jJ S 1 3)))) (nI 60) (uI S 45 0 0) Q') → Q r S := by
    intro r hr
    refine hq _ _ ⟨hs, fun Q' hq' => ?_⟩
    unfold wX12_count
    refine ⟨shA_45 hs, fun M eM => ?_⟩
    subst eM
    exact ml_count hsM (by rw [e47]; exact bit) (fun X => hr X Q' (hq' _ hI0 fin))
  unfold wX11_count
  refine ⟨fun e => ?_, fun n0 => ⟨fun e => ?_, fun n1 => ⟨fun e => ?_, fun n2 => ⟨fun e => ?_, fun n3 => ⟨fun e => ?_, fun n4 => ⟨fun e => ?_, fun n5 => ⟨fun e => ?_, fun n6 => ⟨fun e => ?_, fun n7 => ⟨fun e => ?_, fun n8 => ⟨fun e => ?_, fun n9 => ⟨fun e => ?_, fun n10 => ⟨fun e => ?_, fun n11 => ⟨fun e => ?_, fun n12 => ⟨fun e => ?_, fun n13 => ⟨fun e => ?_, fun n14 => ⟨fun e => ?_, fun n15 => ?_⟩⟩⟩⟩⟩⟩⟩⟩⟩⟩⟩⟩⟩⟩⟩⟩
  · subst e
    simp only [shA_0, shA_1, shR_0_0, shr_0_0, shR_0_1, shr_0_1, shR_0_2, shr_0_2, shR_0_3, shr_0_3, shR_0_4, shr_0_4, shR_0_5, shr_0_5, shR_0_6, shr_0_6, shR_0_7, shr_0_7, shR_0_8, shr_0_8, shR_0_9, shr_0_9, shR_1_4, shr_1_4, shR_1_5, shr_1_5, shR_1_6, shr_1_6, shR_1_9, shr_1_9, shR_1_11, shr_1_11, hs, ne_eq, not_false_eq_true, not_true_eq_false, reduceCtorEq, Nat.reduceEqDiff, forall_eq, true_and, and_true, true_implies, forall_const, implies_true, List.mem_cons, List.not_mem_nil, or_false, false_or, or_self, if_true, if_false, reduceIte, Nat.reduceAdd, Nat.reduceMul, Nat.reduceLT, false_implies, Decidable.not_not, bI_eq0, bI_eq1, upd_at, updL_at, Nat.succ_ne_zero, Int32.reduceToNatClampNeg, eq_self, i01, i10]
    rw [q1.2]
    refine mdl _ (fun X Q' hq' => ?_)
    unfold bX12_count_7
    refine ⟨fun _ => ?_, fun z => absurd (by decide) z⟩
    refine ⟨fun _ => ?_, fun z => absurd rfl z⟩
    refine ⟨shA_45 hsM, sX12_rocks hsM ?_⟩
    rw [e47]; exact hq'
  · subst e
    simp only [shA_0, shA_1, shR_0_0, shr_0_0, shR_0_1, shr_0_1, shR_0_2, shr_0_2, shR_0_3, shr_0_3, shR_0_4, shr_0_4, shR_0_5, shr_0_5, shR_0_6, shr_0_6, shR_0_7, shr_0_7, shR_0_8, shr_0_8, shR_0_9, shr_0_9, shR_1_4, shr_1_4, shR_1_5, shr_1_5, shR_1_6, shr_1_6, shR_1_9, shr_1_9, shR_1_11, shr_1_11, hs, ne_eq, not_false_eq_true, not_true_eq_false, reduceCtorEq, Nat.reduceEqDiff, forall_eq, true_and, and_true, true_implies, forall_const, implies_true, List.mem_cons, List.not_mem_nil, or_false, false_or, or_self, if_true, if_false, reduceIte, Nat.reduceAdd, Nat.reduceMul, Nat.reduceLT, false_implies, Decidable.not_not, bI_eq0, bI_eq1, upd_at, updL_at, Nat.succ_ne_zero, Int32.reduceToNatClampNeg, eq_self, i01, i10]
    refine sJ13_bitCount ?_
    rw [b64]
    refine mdl _ (fun X Q' hq' => ?_)
    unfold bX12_count_7
    refine ⟨fun _ => ?_, fun z => absurd (by decide) z⟩
    refine ⟨fun z => absurd z (by decide), fun _ => ?_⟩
    refine ⟨fun _ => ?_, fun z => absurd rfl z⟩
    exact hq'
  · subst e
    simp only [shA_0, shA_1, shR_0_0, shr_0_0, shR_0_1, shr_0_1, shR_0_2, shr_0_2, shR_0_3, shr_0_3, shR_0_4, shr_0_4, shR_0_5, shr_0_5, shR_0_6, shr_0_6, shR_0_7, shr_0_7, shR_0_8, shr_0_8, shR_0_9, shr_0_9, shR_1_4, shr_1_4, shR_1_5, shr_1_5, shR_1_6, shr_1_6, shR_1_9, shr_1_9, shR_1_11, shr_1_11, hs, ne_eq, not_false_eq_true, not_true_eq_false, reduceCtorEq, Nat.reduceEqDiff, forall_eq, true_and, and_true, true_implies, forall_const, implies_true, List.mem_cons, List.not_mem_nil, or_false, false_or, or_self, if_true, if_false, reduceIte, Nat.reduceAdd, Nat.reduceMul, Nat.reduceLT, false_implies, Decidable.not_not, bI_eq0, bI_eq1, upd_at, updL_at, Nat.succ_ne_zero, Int32.reduceToNatClampNeg, eq_self, i01, i10]
    rw [q4.2.1]
    refine mdl _ (fun X Q' hq' => ?_)
    unfold bX12_count_7
    refine ⟨fun _ => ?_, fun z => absurd (by decide) z⟩
    refine ⟨fun z => absurd z (by decide), fun _ => ?_⟩
    refine ⟨fun z => absurd z (by decide), fun _ => ?_⟩
    refine ⟨fun _ => ?_, fun z => absurd rfl z⟩
    simp only [shA_45, shA_47, shZ_47, shR_45_2, shr_45_2, shR_45_3, shr_45_3, shR_45_4, shr_45_4, shR_45_5, shr_45_5, shR_45_7, shr_45_7, shR_45_16, shr_45_16, shR_45_18, shr_45_18, shR_45_19, shr_45_19, shR_45_21, shr_45_21, shR_45_22, shr_45_22, shR_45_25, shr_45_25, shR_45_26, shr_45_26, shR_45_28, shr_45_28, shR_45_29, shr_45_29, shR_45_33, shr_45_33, shR_45_34, shr_45_34, shR_45_35, shr_45_35, shR_45_36, shr_45_36, shR_45_37, shr_45_37, shR_45_38, shr_45_38, shR_45_39, shr_45_39, shR_45_40, shr_45_40, shR_45_42, shr_45_42, hsM, hs, vpin_2, vpin_3, vpin_4, vpin_5, vpin_6, vpin_7, vpin_9, vpin_12, vpin_13, vpin_16, vpin_32, vpin_60, vpin_96, vpin_400, vpin_401, vpin_540, vpin_4320, vpin_4608, vpin_5600, vpin_11200, vpin_276480, e47, ne_eq, not_false_eq_true, not_true_eq_false, reduceCtorEq, Nat.reduceEqDiff, forall_eq, true_and, and_true, true_implies, forall_const, implies_true, List.mem_cons, List.not_mem_nil, or_false, false_or, or_self, if_true, if_false, reduceIte, Nat.reduceAdd, Nat.reduceMul, Nat.reduceLT, false_implies, Decidable.not_not, bI_eq0, bI_eq1, upd_at, updL_at, Nat.succ_ne_zero, Int32.reduceToNatClampNeg, eq_self, i01, i10]
    exact ⟨by decide, hq'⟩
  · subst e
    simp only [shA_0, shA_1, shA_2, shR_0_0, shr_0_0, shR_0_1, shr_0_1, shR_0_2, shr_0_2, shR_0_3, shr_0_3, shR_0_4, shr_0_4, shR_0_5, shr_0_5, shR_0_6, shr_0_6, shR_0_7, shr_0_7, shR_0_8, shr_0_8, shR_0_9, shr_0_9, shR_1_4, shr_1_4, shR_1_5, shr_1_5, shR_1_6, shr_1_6, shR_1_9, shr_1_9, shR_1_11, shr_1_11, shR_2_0, shr_2_0, shR_2_1, shr_2_1, shR_2_2, shr_2_2, hs, ne_eq, not_false_eq_true, not_true_eq_false, reduceCtorEq, Nat.reduceEqDiff, forall_eq, true_and, and_true, true_implies, forall_const, implies_true, List.mem_cons, List.not_mem_nil, or_false, false_or, or_self, if_true, if_false, reduceIte, Nat.reduceAdd, Nat.reduceMul, Nat.reduceLT, false_implies, Decidable.not_not, bI_eq0, bI_eq1, upd_at, updL_at, Nat.succ_ne_zero, Int32.reduceToNatClampNeg, eq_self, i01, i10]
    rw [q5.2.1]
    refine mdl _ (fun X Q' hq' => ?_)
    unfold bX12_count_7
    refine ⟨fun _ => ?_, fun z => absurd (by decide) z⟩
    refine ⟨fun z => absurd z (by decide), fun _ => ?_⟩
    refine ⟨fun z => absurd z (by decide), fun _ => ?_⟩
    refine ⟨fun z => absurd z (by decide), fun _ => ?_⟩
    refine ⟨fun _ => ?_, fun z => absurd rfl z⟩
    simp only [shA_45, shA_47, shZ_47, shR_45_2, shr_45_2, shR_45_3, shr_45_3, shR_45_4, shr_45_4, shR_45_5, shr_45_5, shR_45_7, shr_45_7, shR_45_16, shr_45_16, shR_45_18, shr_45_18, shR_45_19, shr_45_19, shR_45_21, shr_45_21, shR_45_22, shr_45_22, shR_45_25, shr_45_25, shR_45_26, shr_45_26, shR_45_28, shr_45_28, shR_45_29, shr_45_29, shR_45_33, shr_45_33, shR_45_34, shr_45_34, shR_45_35, shr_45_35, shR_45_36, shr_45_36, shR_45_37, shr_45_37, shR_45_38, shr_45_38, shR_45_39, shr_45_39, shR_45_40, shr_45_40, shR_45_42, shr_45_42, hsM, hs, vpin_2, vpin_3, vpin_4, vpin_5, vpin_6, vpin_7, vpin_9, vpin_12, vpin_13, vpin_16, vpin_32, vpin_60, vpin_96, vpin_400, vpin_401, vpin_540, vpin_4320, vpin_4608, vpin_5600, vpin_11200, vpin_276480, e47, ne_eq, not_false_eq_true, not_true_eq_false, reduceCtorEq, Nat.reduceEqDiff, forall_eq, true_and, and_true, true_implies, forall_const, implies_true, List.mem_cons, List.not_mem_nil, or_false, false_or, or_self, if_true, if_false, reduceIte, Nat.reduceAdd, Nat.reduceMul, Nat.reduceLT, false_implies, Decidable.not_not, bI_eq0, bI_eq1, upd_at, updL_at, Nat.succ_ne_zero, Int32.reduceToNatClampNeg, eq_self, i01, i10]
    exact ⟨by decide, hq'⟩
  · subst e
    simp only [shA_0, shA_1, shA_6, shR_0_0, shr_0_0, shR_0_1, shr_0_1, shR_0_2, shr_0_2, shR_0_3, shr_0_3, shR_0_4, shr_0_4, shR_0_5, shr_0_5, shR_0_6, shr_0_6, shR_0_7, shr_0_7, shR_0_8, shr_0_8, shR_0_9, shr_0_9, shR_1_4, shr_1_4, shR_1_5, shr_1_5, shR_1_6, shr_1_6, shR_1_9, shr_1_9, shR_1_11, shr_1_11, shR_6_0, shr_6_0, shR_6_1, shr_6_1, shR_6_2, shr_6_2, hs, ne_eq, not_false_eq_true, not_true_eq_false, reduceCtorEq, Nat.reduceEqDiff, forall_eq, true_and, and_true, true_implies, forall_const, implies_true, List.mem_cons, List.not_mem_nil, or_false, false_or, or_self, if_true, if_false, reduceIte, Nat.reduceAdd, Nat.reduceMul, Nat.reduceLT, false_implies, Decidable.not_not, bI_eq0, bI_eq1, upd_at, updL_at, Nat.succ_ne_zero, Int32.reduceToNatClampNeg, eq_self, i01, i10]
    rw [q6.2.1]
    refine mdl _ (fun X Q' hq' => ?_)
    unfold bX12_count_7
    refine ⟨fun _ => ?_, fun z => absurd (by decide) z⟩
    refine ⟨fun z => absurd z (by decide), fun _ => ?_⟩
    refine ⟨fun z => absurd z (by decide), fun _ => ?_⟩
    refine ⟨fun z => absurd z (by decide), fun _ => ?_⟩
    refine ⟨fun z => absurd z (by decide), fun _ => ?_⟩
    refine ⟨fun _ => ?_, fun z => absurd rfl z⟩
    simp only [shA_45, shA_47, shZ_47, shR_45_2, shr_45_2, shR_45_3, shr_45_3, shR_45_4, shr_45_4, shR_45_5, shr_45_5, shR_45_7, shr_45_7, shR_45_16, shr_45_16, shR_45_18, shr_45_18, shR_45_19, shr_45_19, shR_45_21, shr_45_21, shR_45_22, shr_45_22, shR_45_25, shr_45_25, shR_45_26, shr_45_26, shR_45_28, shr_45_28, shR_45_29, shr_45_29, shR_45_33, shr_45_33, shR_45_34, shr_45_34, shR_45_35, shr_45_35, shR_45_36, shr_45_36, shR_45_37, shr_45_37, shR_45_38, shr_45_38, shR_45_39, shr_45_39, shR_45_40, shr_45_40, shR_45_42, shr_45_42, hsM, hs, vpin_2, vpin_3, vpin_4, vpin_5, vpin_6, vpin_7, vpin_9, vpin_12, vpin_13, vpin_16, vpin_32, vpin_60, vpin_96, vpin_400, vpin_401, vpin_540, vpin_4320, vpin_4608, vpin_5600, vpin_11200, vpin_276480, e47, ne_eq, not_false_eq_true, not_true_eq_false, reduceCtorEq, Nat.reduceEqDiff, forall_eq, true_and, and_true, true_implies, forall_const, implies_true, List.mem_cons, List.not_mem_nil, or_false, false_or, or_self, if_true, if_false, reduceIte, Nat.reduceAdd, Nat.reduceMul, Nat.reduceLT, false_implies, Decidable.not_not, bI_eq0, bI_eq1, upd_at, updL_at, Nat.succ_ne_zero, Int32.reduceToNatClampNeg, eq_self, i01, i10]
    exact ⟨by decide, hq'⟩
  · subst e
    simp only [shA_0, shA_1, shR_0_0, shr_0_0, shR_0_1, shr_0_1, shR_0_2, shr_0_2, shR_0_3, shr_0_3, shR_0_4, shr_0_4, shR_0_5, shr_0_5, shR_0_6, shr_0_6, shR_0_7, shr_0_7, shR_0_8, shr_0_8, shR_0_9, shr_0_9, shR_1_4, shr_1_4, shR_1_5, shr_1_5, shR_1_6, shr_1_6, shR_1_9, shr_1_9, shR_1_11, shr_1_11, hs, ne_eq, not_false_eq_true, not_true_eq_false, reduceCtorEq, Nat.reduceEqDiff, forall_eq, true_and, and_true, true_implies, forall_const, implies_true, List.mem_cons, List.not_mem_nil, or_false, false_or, or_self, if_true, if_false, reduceIte, Nat.reduceAdd, Nat.reduceMul, Nat.reduceLT, false_implies, Decidable.not_not, bI_eq0, bI_eq1, upd_at, updL_at, Nat.succ_ne_zero, Int32.reduceToNatClampNeg, eq_self, i01, i10]
    rw [q7.2.1]
    refine mdl _ (fun X Q' hq' => ?_)
    unfold bX12_count_7
    refine ⟨fun _ => ?_, fun z => absurd (by decide) z⟩
    refine ⟨fun z => absurd z (by decide), fun _ => ?_⟩
    refine ⟨fun z => absurd z (by decide), fun _ => ?_⟩
    refine ⟨fun z => absurd z (by decide), fun _ => ?_⟩
    refine ⟨fun z => absurd z (by decide), fun _ => ?_⟩
    refine ⟨fun z => absurd z (by decide), fun _ => ?_⟩
    refine ⟨fun _ => ?_, fun z => absurd rfl z⟩
    simp only [shA_45, shA_47, shZ_47, shR_45_2, shr_45_2, shR_45_3, shr_45_3, shR_45_4, shr_45_4, shR_45_5, shr_45_5, shR_45_7, shr_45_7, shR_45_16, shr_45_16, shR_45_18, shr_45_18, shR_45_19, shr_45_19, shR_45_21, shr_45_21, shR_45_22, shr_45_22, shR_45_25, shr_45_25, shR_45_26, shr_45_26, shR_45_28, shr_45_28, shR_45_29, shr_45_29, shR_45_33, shr_45_33, shR_45_34, shr_45_34, shR_45_35, shr_45_35, shR_45_36, shr_45_36, shR_45_37, shr_45_37, shR_45_38, shr_45_38, shR_45_39, shr_45_39, shR_45_40, shr_45_40, shR_45_42, shr_45_42, hsM, hs, vpin_2, vpin_3, vpin_4, vpin_5, vpin_6, vpin_7, vpin_9, vpin_12, vpin_13, vpin_16, vpin_32, vpin_60, vpin_96, vpin_400, vpin_401, vpin_540, vpin_4320, vpin_4608, vpin_5600, vpin_11200, vpin_276480, e47, ne_eq, not_false_eq_true, not_true_eq_false, reduceCtorEq, Nat.reduceEqDiff, forall_eq, true_and, and_true, true_implies, forall_const, implies_true, List.mem_cons, List.not_mem_nil, or_false, false_or, or_self, if_true, if_false, reduceIte, Nat.reduceAdd, Nat.reduceMul, Nat.reduceLT, false_implies, Decidable.not_not, bI_eq0, bI_eq1, upd_at, updL_at, Nat.succ_ne_zero, Int32.reduceToNatClampNeg, eq_self, i01, i10]
    exact ⟨by decide, hq'⟩
  · subst e
    simp only [shA_0, shA_1, shR_0_0, shr_0_0, shR_0_1, shr_0_1, shR_0_2, shr_0_2, shR_0_3, shr_0_3, shR_0_4, shr_0_4, shR_0_5, shr_0_5, shR_0_6, shr_0_6, shR_0_7, shr_0_7, shR_0_8, shr_0_8, shR_0_9, shr_0_9, shR_1_4, shr_1_4, shR_1_5, shr_1_5, shR_1_6, shr_1_6, shR_1_9, shr_1_9, shR_1_11, shr_1_11, hs, ne_eq, not_false_eq_true, not_true_eq_false, reduceCtorEq, Nat.reduceEqDiff, forall_eq, true_and, and_true, true_implies, forall_const, implies_true, List.mem_cons, List.not_mem_nil, or_false, false_or, or_self, if_true, if_false, reduceIte, Nat.reduceAdd, Nat.reduceMul, Nat.reduceLT, false_implies, Decidable.not_not, bI_eq0, bI_eq1, upd_at, updL_at, Nat.succ_ne_zero, Int32.reduceToNatClampNeg, eq_self, i01, i10]
    refine sX9_glassRock hs (c10.trans t2) t1 ?_
    rw [c11 t t1]
    refine mdl _ (fun X Q' hq' => ?_)
    unfold bX12_count_7
    refine ⟨fun _ => ?_, fun z => absurd (by decide) z⟩
    refine ⟨fun z => absurd z (by decide), fun _ => ?_⟩
    refine ⟨fun z => absurd z (by decide), fun _ => ?_⟩
    refine ⟨fun z => absurd z (by decide), fun _ => ?_⟩
    refine ⟨fun z => absurd z (by decide), fun _ => ?_⟩
    refine ⟨fun z => absurd z (by decide), fun _ => ?_⟩
    refine ⟨fun z => absurd z (by decide), fun _ => ?_⟩
    refine ⟨fun _ => ?_, fun z => absurd rfl z⟩
    refine ⟨shA_45 hsM, sX12_here hsM (by rw [e47]; exact t2) t1 ?_⟩
    rw [e47]; exact hq'
  · subst e
    simp only [shA_0, shA_14, shR_0_0, shr_0_0, shR_0_1, shr_0_1, shR_0_2, shr_0_2, shR_0_3, shr_0_3, shR_0_4, shr_0_4, shR_0_5, shr_0_5, shR_0_6, shr_0_6, shR_0_7, shr_0_7, shR_0_8, shr_0_8, shR_0_9, shr_0_9, shR_14_0, shr_14_0, shR_14_2, shr_14_2, shR_14_3, shr_14_3, shR_14_4, shr_14_4, shR_14_5, shr_14_5, shR_14_6, shr_14_6, shR_14_9, shr_14_9, shR_14_10, shr_14_10, hs, ne_eq, not_false_eq_true, not_true_eq_false, reduceCtorEq, Nat.reduceEqDiff, forall_eq, true_and, and_true, true_implies, forall_const, implies_true, List.mem_cons, List.not_mem_nil, or_false, false_or, or_self, if_true, if_false, reduceIte, Nat.reduceAdd, Nat.reduceMul, Nat.reduceLT, false_implies, Decidable.not_not, bI_eq0, bI_eq1, upd_at, updL_at, Nat.succ_ne_zero, Int32.reduceToNatClampNeg, eq_self, i01, i10]
    refine mdl _ (fun X Q' hq' => ?_)
    unfold bX12_count_7
    refine ⟨fun _ => ?_, fun z => absurd (by decide) z⟩
    refine ⟨fun z => absurd z (by decide), fun _ => ?_⟩
    refine ⟨fun z => absurd z (by decide), fun _ => ?_⟩
    refine ⟨fun z => absurd z (by decide), fun _ => ?_⟩
    refine ⟨fun z => absurd z (by decide), fun _ => ?_⟩
    refine ⟨fun z => absurd z (by decide), fun _ => ?_⟩
    refine ⟨fun z => absurd z (by decide), fun _ => ?_⟩
    refine ⟨fun z => absurd z (by decide), fun _ => ?_⟩
    refine ⟨fun _ => ?_, fun z => absurd rfl z⟩
    rw [e8]; exact ⟨shA_45 hsM, hq'⟩
  · subst e
    simp only [shA_0, shA_44, shZ_44, shR_0_0, shr_0_0, shR_0_1, shr_0_1, shR_0_2, shr_0_2, shR_0_3, shr_0_3, shR_0_4, shr_0_4, shR_0_5, shr_0_5, shR_0_6, shr_0_6, shR_0_7, shr_0_7, shR_0_8, shr_0_8, shR_0_9, shr_0_9, hs, ne_eq, not_false_eq_true, not_true_eq_false, reduceCtorEq, Nat.reduceEqDiff, forall_eq, true_and, and_true, true_implies, forall_const, implies_true, List.mem_cons, List.not_mem_nil, or_false, false_or, or_self, if_true, if_false, reduceIte, Nat.reduceAdd, Nat.reduceMul, Nat.reduceLT, false_implies, Decidable.not_not, bI_eq0, bI_eq1, upd_at, updL_at, Nat.succ_ne_zero, Int32.reduceToNatClampNeg, eq_self, i01, i10]
    rw [show (8 : Int32) - 8 = nI 0 from by decide, nI_tn (by omega), f1]
    refine ⟨nI_in2 (by omega) (by omega), mdl _ (fun X Q' hq' => ?_)⟩
    unfold bX12_count_7
    refine ⟨fun _ => ?_, fun z => absurd (by decide) z⟩
    refine ⟨fun z => absurd z (by decide), fun _ => ?_⟩
    refine ⟨fun z => absurd z (by decide), fun _ => ?_⟩
    refine ⟨fun z => absurd z (by decide), fun _ => ?_⟩
    refine ⟨fun z => absurd z (by decide), fun _ => ?_⟩
    refine ⟨fun z => absurd z (by decide), fun _ => ?_⟩
    refine ⟨fun z => absurd z (by decide), fun _ => ?_⟩
    refine ⟨fun z => absurd z (by decide), fun _ => ?_⟩
    refine ⟨fun z => absurd z (by decide), fun _ => ?_⟩
    refine ⟨fun _ => ?_, fun z => absurd rfl z⟩
    simp only [shA_45, shA_46, shZ_46, shR_45_2, shr_45_2, shR_45_3, shr_45_3, shR_45_4, shr_45_4, shR_45_5, shr_45_5, shR_45_7, shr_45_7, shR_45_16, shr_45_16, shR_45_18, shr_45_18, shR_45_19, shr_45_19, shR_45_21, shr_45_21, shR_45_22, shr_45_22, shR_45_25, shr_45_25, shR_45_26, shr_45_26, shR_45_28, shr_45_28, shR_45_29, shr_45_29, shR_45_33, shr_45_33, shR_45_34, shr_45_34, shR_45_35, shr_45_35, shR_45_36, shr_45_36, shR_45_37, shr_45_37, shR_45_38, shr_45_38, shR_45_39, shr_45_39, shR_45_40, shr_45_40, shR_45_42, shr_45_42, hsM, hs, vpin_2, vpin_3, vpin_4, vpin_5, vpin_6, vpin_7, vpin_9, vpin_12, vpin_13, vpin_16, vpin_32, vpin_60, vpin_96, vpin_400, vpin_401, vpin_540, vpin_4320, vpin_4608, vpin_5600, vpin_11200, vpin_276480, e46, ne_eq, not_false_eq_true, not_true_eq_false, reduceCtorEq, Nat.reduceEqDiff, forall_eq, true_and, and_true, true_implies, forall_const, implies_true, List.mem_cons, List.not_mem_nil, or_false, false_or, or_self, if_true, if_false, reduceIte, Nat.reduceAdd, Nat.reduceMul, Nat.reduceLT, false_implies, Decidable.not_not, bI_eq0, bI_eq1, upd_at, updL_at, Nat.succ_ne_zero, Int32.reduceToNatClampNeg, eq_self, i01, i10]
    exact ⟨by decide, hq'⟩
  · subst e
    simp only [shA_0, shA_44, shZ_44, shR_0_0, shr_0_0, shR_0_1, shr_0_1, shR_0_2, shr_0_2, shR_0_3, shr_0_3, shR_0_4, shr_0_4, shR_0_5, shr_0_5, shR_0_6, shr_0_6, shR_0_7, shr_0_7, shR_0_8, shr_0_8, shR_0_9, shr_0_9, hs, ne_eq, not_false_eq_true, not_true_eq_false, reduceCtorEq, Nat.reduceEqDiff, forall_eq, true_and, and_true, true_implies, forall_const, implies_true, List.mem_cons, List.not_mem_nil, or_false, false_or, or_self, if_true, if_false, reduceIte, Nat.reduceAdd, Nat.reduceMul, Nat.reduceLT, false_implies, Decidable.not_not, bI_eq0, bI_eq1, upd_at, updL_at, Nat.succ_ne_zero, Int32.reduceToNatClampNeg, eq_self, i01, i10]
    rw [show (9 : Int32) - 8 = nI 1 from by decide, nI_tn (by omega), f2]
    refine ⟨nI_in2 (by omega) (by omega), mdl _ (fun X Q' hq' => ?_)⟩
    unfold bX12_count_7
    refine ⟨fun _ => ?_, fun z => absurd (by decide) z⟩
    refine ⟨fun z => absurd z (by decide), fun _ => ?_⟩
    refine ⟨fun z => absurd z (by decide), fun _ => ?_⟩
    refine ⟨fun z => absurd z (by decide), fun _ => ?_⟩
    refine ⟨fun z => absurd z (by decide), fun _ => ?_⟩
    refine ⟨fun z => absurd z (by decide), fun _ => ?_⟩
    refine ⟨fun z => absurd z (by decide), fun _ => ?_⟩
    refine ⟨fun z => absurd z (by decide), fun _ => ?_⟩
    refine ⟨fun z => absurd z (by decide), fun _ => ?_⟩
    refine ⟨fun z => absurd z (by decide), fun _ => ?_⟩
    refine ⟨fun _ => ?_, fun z => absurd rfl z⟩
    simp only [shA_45, shA_46, shZ_46, shR_45_2, shr_45_2, shR_45_3, shr_45_3, shR_45_4, shr_45_4, shR_45_5, shr_45_5, shR_45_7, shr_45_7, shR_45_16, shr_45_16, shR_45_18, shr_45_18, shR_45_19, shr_45_19, shR_45_21, shr_45_21, shR_45_22, shr_45_22, shR_45_25, shr_45_25, shR_45_26, shr_45_26, shR_45_28, shr_45_28, shR_45_29, shr_45_29, shR_45_33, shr_45_33, shR_45_34, shr_45_34, shR_45_35, shr_45_35, shR_45_36, shr_45_36, shR_45_37, shr_45_37, shR_45_38, shr_45_38, shR_45_39, shr_45_39, shR_45_40, shr_45_40, shR_45_42, shr_45_42, hsM, hs, vpin_2, vpin_3, vpin_4, vpin_5, vpin_6, vpin_7, vpin_9, vpin_12, vpin_13, vpin_16, vpin_32, vpin_60, vpin_96, vpin_400, vpin_401, vpin_540, vpin_4320, vpin_4608, vpin_5600, vpin_11200, vpin_276480, e46, ne_eq, not_false_eq_true, not_true_eq_false, reduceCtorEq, Nat.reduceEqDiff, forall_eq, true_and, and_true, true_implies, forall_const, implies_true, List.mem_cons, List.not_mem_nil, or_false, false_or, or_self, if_true, if_false, reduceIte, Nat.reduceAdd, Nat.reduceMul, Nat.reduceLT, false_implies, Decidable.not_not, bI_eq0, bI_eq1, upd_at, updL_at, Nat.succ_ne_zero, Int32.reduceToNatClampNeg, eq_self, i01, i10]
    exact ⟨by decide, hq'⟩
  · subst e
    simp only [shA_0, shA_44, shZ_44, shR_0_0, shr_0_0, shR_0_1, shr_0_1, shR_0_2, shr_0_2, shR_0_3, shr_0_3, shR_0_4, shr_0_4, shR_0_5, shr_0_5, shR_0_6, shr_0_6, shR_0_7, shr_0_7, shR_0_8, shr_0_8, shR_0_9, shr_0_9, hs, ne_eq, not_false_eq_true, not_true_eq_false, reduceCtorEq, Nat.reduceEqDiff, forall_eq, true_and, and_true, true_implies, forall_const, implies_true, List.mem_cons, List.not_mem_nil, or_false, false_or, or_self, if_true, if_false, reduceIte, Nat.reduceAdd, Nat.reduceMul, Nat.reduceLT, false_implies, Decidable.not_not, bI_eq0, bI_eq1, upd_at, updL_at, Nat.succ_ne_zero, Int32.reduceToNatClampNeg, eq_self, i01, i10]
    rw [show (10 : Int32) - 8 = nI 2 from by decide, nI_tn (by omega), f3]
    refine ⟨nI_in2 (by omega) (by omega), mdl _ (fun X Q' hq' => ?_)⟩
    unfold bX12_count_7
    refine ⟨fun _ => ?_, fun z => absurd (by decide) z⟩
    refine ⟨fun z => absurd z (by decide), fun _ => ?_⟩
    refine ⟨fun z => absurd z (by decide), fun _ => ?_⟩
    refine ⟨fun z => absurd z (by decide), fun _ => ?_⟩
    refine ⟨fun z => absurd z (by decide), fun _ => ?_⟩
    refine ⟨fun z => absurd z (by decide), fun _ => ?_⟩
    refine ⟨fun z => absurd z (by decide), fun _ => ?_⟩
    refine ⟨fun z => absurd z (by decide), fun _ => ?_⟩
    refine ⟨fun z => absurd z (by decide), fun _ => ?_⟩
    refine ⟨fun z => absurd z (by decide), fun _ => ?_⟩
    refine ⟨fun z => absurd z (by decide), fun _ => ?_⟩
    refine ⟨fun _ => ?_, fun z => absurd rfl z⟩
    simp only [shA_45, shA_46, shZ_46, shR_45_2, shr_45_2, shR_45_3, shr_45_3, shR_45_4, shr_45_4, shR_45_5, shr_45_5, shR_45_7, shr_45_7, shR_45_16, shr_45_16, shR_45_18, shr_45_18, shR_45_19, shr_45_19, shR_45_21, shr_45_21, shR_45_22, shr_45_22, shR_45_25, shr_45_25, shR_45_26, shr_45_26, shR_45_28, shr_45_28, shR_45_29, shr_45_29, shR_45_33, shr_45_33, shR_45_34, shr_45_34, shR_45_35, shr_45_35, shR_45_36, shr_45_36, shR_45_37, shr_45_37, shR_45_38, shr_45_38, shR_45_39, shr_45_39, shR_45_40, shr_45_40, shR_45_42, shr_45_42, hsM, hs, vpin_2, vpin_3, vpin_4, vpin_5, vpin_6, vpin_7, vpin_9, vpin_12, vpin_13, vpin_16, vpin_32, vpin_60, vpin_96, vpin_400, vpin_401, vpin_540, vpin_4320, vpin_4608, vpin_5600, vpin_11200, vpin_276480, e46, ne_eq, not_false_eq_true, not_true_eq_false, reduceCtorEq, Nat.reduceEqDiff, forall_eq, true_and, and_true, true_implies, forall_const, implies_true, List.mem_cons, List.not_mem_nil, or_false, false_or, or_self, if_true, if_false, reduceIte, Nat.reduceAdd, Nat.reduceMul, Nat.reduceLT, false_implies, Decidable.not_not, bI_eq0, bI_eq1, upd_at, updL_at, Nat.succ_ne_zero, Int32.reduceToNatClampNeg, eq_self, i01, i10]
    exact ⟨by decide, hq'⟩
  · subst e
    simp only [shA_0, shA_44, shZ_44, shR_0_0, shr_0_0, shR_0_1, shr_0_1, shR_0_2, shr_0_2, shR_0_3, shr_0_3, shR_0_4, shr_0_4, shR_0_5, shr_0_5, shR_0_6, shr_0_6, shR_0_7, shr_0_7, shR_0_8, shr_0_8, shR_0_9, shr_0_9, hs, ne_eq, not_false_eq_true, not_true_eq_false, reduceCtorEq, Nat.reduceEqDiff, forall_eq, true_and, and_true, true_implies, forall_const, implies_true, List.mem_cons, List.not_mem_nil, or_false, false_or, or_self, if_true, if_false, reduceIte, Nat.reduceAdd, Nat.reduceMul, Nat.reduceLT, false_implies, Decidable.not_not, bI_eq0, bI_eq1, upd_at, updL_at, Nat.succ_ne_zero, Int32.reduceToNatClampNeg, eq_self, i01, i10]
    rw [show (11 : Int32) - 8 = nI 3 from by decide, nI_tn (by omega), f4]
    refine ⟨nI_in2 (by omega) (by omega), mdl _ (fun X Q' hq' => ?_)⟩
    unfold bX12_count_7
    refine ⟨fun _ => ?_, fun z => absurd (by decide) z⟩
    refine ⟨fun z => absurd z (by decide), fun _ => ?_⟩
    refine ⟨fun z => absurd z (by decide), fun _ => ?_⟩
    refine ⟨fun z => absurd z (by decide), fun _ => ?_⟩
    refine ⟨fun z => absurd z (by decide), fun _ => ?_⟩
    refine ⟨fun z => absurd z (by decide), fun _ => ?_⟩
    refine ⟨fun z => absurd z (by decide), fun _ => ?_⟩
    refine ⟨fun z => absurd z (by decide), fun _ => ?_⟩
    refine ⟨fun z => absurd z (by decide), fun _ => ?_⟩
    refine ⟨fun z => absurd z (by decide), fun _ => ?_⟩
    refine ⟨fun z => absurd z (by decide), fun _ => ?_⟩
    refine ⟨fun z => absurd z (by decide), fun _ => ?_⟩
    refine ⟨fun _ => ?_, fun z => absurd rfl z⟩
    simp only [shA_45, shA_46, shZ_46, shR_45_2, shr_45_2, shR_45_3, shr_45_3, shR_45_4, shr_45_4, shR_45_5, shr_45_5, shR_45_7, shr_45_7, shR_45_16, shr_45_16, shR_45_18, shr_45_18, shR_45_19, shr_45_19, shR_45_21, shr_45_21, shR_45_22, shr_45_22, shR_45_25, shr_45_25, shR_45_26, shr_45_26, shR_45_28, shr_45_28, shR_45_29, shr_45_29, shR_45_33, shr_45_33, shR_45_34, shr_45_34, shR_45_35, shr_45_35, shR_45_36, shr_45_36, shR_45_37, shr_45_37, shR_45_38, shr_45_38, shR_45_39, shr_45_39, shR_45_40, shr_45_40, shR_45_42, shr_45_42, hsM, hs, vpin_2, vpin_3, vpin_4, vpin_5, vpin_6, vpin_7, vpin_9, vpin_12, vpin_13, vpin_16, vpin_32, vpin_60, vpin_96, vpin_400, vpin_401, vpin_540, vpin_4320, vpin_4608, vpin_5600, vpin_11200, vpin_276480, e46, ne_eq, not_false_eq_true, not_true_eq_false, reduceCtorEq, Nat.reduceEqDiff, forall_eq, true_and, and_true, true_implies, forall_const, implies_true, List.mem_cons, List.not_mem_nil, or_false, false_or, or_self, if_true, if_false, reduceIte, Nat.reduceAdd, Nat.reduceMul, Nat.reduceLT, false_implies, Decidable.not_not, bI_eq0, bI_eq1, upd_at, updL_at, Nat.succ_ne_zero, Int32.reduceToNatClampNeg, eq_self, i01, i10]
    exact ⟨by decide, hq'⟩
  · subst e
    simp only [shA_0, shA_44, shZ_44, shR_0_0, shr_0_0, shR_0_1, shr_0_1, shR_0_2, shr_0_2, shR_0_3, shr_0_3, shR_0_4, shr_0_4, shR_0_5, shr_0_5, shR_0_6, shr_0_6, shR_0_7, shr_0_7, shR_0_8, shr_0_8, shR_0_9, shr_0_9, hs, ne_eq, not_false_eq_true, not_true_eq_false, reduceCtorEq, Nat.reduceEqDiff, forall_eq, true_and, and_true, true_implies, forall_const, implies_true, List.mem_cons, List.not_mem_nil, or_false, false_or, or_self, if_true, if_false, reduceIte, Nat.reduceAdd, Nat.reduceMul, Nat.reduceLT, false_implies, Decidable.not_not, bI_eq0, bI_eq1, upd_at, updL_at, Nat.succ_ne_zero, Int32.reduceToNatClampNeg, eq_self, i01, i10]
    rw [show (12 : Int32) - 8 = nI 4 from by decide, nI_tn (by omega), f5]
    refine ⟨nI_in2 (by omega) (by omega), mdl _ (fun X Q' hq' => ?_)⟩
    unfold bX12_count_7
    refine ⟨fun _ => ?_, fun z => absurd (by decide) z⟩
    refine ⟨fun z => absurd z (by decide), fun _ => ?_⟩
    refine ⟨fun z => absurd z (by decide), fun _ => ?_⟩
    refine ⟨fun z => absurd z (by decide), fun _ => ?_⟩
    refine ⟨fun z => absurd z (by decide), fun _ => ?_⟩
    refine ⟨fun z => absurd z (by decide), fun _ => ?_⟩
    refine ⟨fun z => absurd z (by decide), fun _ => ?_⟩
    refine ⟨fun z => absurd z (by decide), fun _ => ?_⟩
    refine ⟨fun z => absurd z (by decide), fun _ => ?_⟩
    refine ⟨fun z => absurd z (by decide), fun _ => ?_⟩
    refine ⟨fun z => absurd z (by decide), fun _ => ?_⟩
    refine ⟨fun z => absurd z (by decide), fun _ => ?_⟩
    refine ⟨fun z => absurd z (by decide), fun _ => ?_⟩
    refine ⟨fun _ => ?_, fun z => absurd rfl z⟩
    simp only [shA_45, shA_46, shZ_46, shR_45_2, shr_45_2, shR_45_3, shr_45_3, shR_45_4, shr_45_4, shR_45_5, shr_45_5, shR_45_7, shr_45_7, shR_45_16, shr_45_16, shR_45_18, shr_45_18, shR_45_19, shr_45_19, shR_45_21, shr_45_21, shR_45_22, shr_45_22, shR_45_25, shr_45_25, shR_45_26, shr_45_26, shR_45_28, shr_45_28, shR_45_29, shr_45_29, shR_45_33, shr_45_33, shR_45_34, shr_45_34, shR_45_35, shr_45_35, shR_45_36, shr_45_36, shR_45_37, shr_45_37, shR_45_38, shr_45_38, shR_45_39, shr_45_39, shR_45_40, shr_45_40, shR_45_42, shr_45_42, hsM, hs, vpin_2, vpin_3, vpin_4, vpin_5, vpin_6, vpin_7, vpin_9, vpin_12, vpin_13, vpin_16, vpin_32, vpin_60, vpin_96, vpin_400, vpin_401, vpin_540, vpin_4320, vpin_4608, vpin_5600, vpin_11200, vpin_276480, e46, ne_eq, not_false_eq_true, not_true_eq_false, reduceCtorEq, Nat.reduceEqDiff, forall_eq, true_and, and_true, true_implies, forall_const, implies_true, List.mem_cons, List.not_mem_nil, or_false, false_or, or_self, if_true, if_false, reduceIte, Nat.reduceAdd, Nat.reduceMul, Nat.reduceLT, false_implies, Decidable.not_not, bI_eq0, bI_eq1, upd_at, updL_at, Nat.succ_ne_zero, Int32.reduceToNatClampNeg, eq_self, i01, i10]
    exact ⟨by decide, hq'⟩
  · subst e
    simp only [shA_0, shA_1, shR_0_0, shr_0_0, shR_0_1, shr_0_1, shR_0_2, shr_0_2, shR_0_3, shr_0_3, shR_0_4, shr_0_4, shR_0_5, shr_0_5, shR_0_6, shr_0_6, shR_0_7, shr_0_7, shR_0_8, shr_0_8, shR_0_9, shr_0_9, shR_1_4, shr_1_4, shR_1_5, shr_1_5, shR_1_6, shr_1_6, shR_1_9, shr_1_9, shR_1_11, shr_1_11, hs, ne_eq, not_false_eq_true, not_true_eq_false, reduceCtorEq, Nat.reduceEqDiff, forall_eq, true_and, and_true, true_implies, forall_const, implies_true, List.mem_cons, List.not_mem_nil, or_false, false_or, or_self, if_true, if_false, reduceIte, Nat.reduceAdd, Nat.reduceMul, Nat.reduceLT, false_implies, Decidable.not_not, bI_eq0, bI_eq1, upd_at, updL_at, Nat.succ_ne_zero, Int32.reduceToNatClampNeg, eq_self, i01, i10]
    rw [q4.2.2.1]
    refine mdl _ (fun X Q' hq' => ?_)
    unfold bX12_count_7
    refine ⟨fun _ => ?_, fun z => absurd (by decide) z⟩
    refine ⟨fun z => absurd z (by decide), fun _ => ?_⟩
    refine ⟨fun z => absurd z (by decide), fun _ => ?_⟩
    refine ⟨fun z => absurd z (by decide), fun _ => ?_⟩
    refine ⟨fun z => absurd z (by decide), fun _ => ?_⟩
    refine ⟨fun z => absurd z (by decide), fun _ => ?_⟩
    refine ⟨fun z => absurd z (by decide), fun _ => ?_⟩
    refine ⟨fun z => absurd z (by decide), fun _ => ?_⟩
    refine ⟨fun z => absurd z (by decide), fun _ => ?_⟩
    refine ⟨fun z => absurd z (by decide), fun _ => ?_⟩
    refine ⟨fun z => absurd z (by decide), fun _ => ?_⟩
    refine ⟨fun z => absurd z (by decide), fun _ => ?_⟩
    refine ⟨fun z => absurd z (by decide), fun _ => ?_⟩
    refine ⟨fun z => absurd z (by decide), fun _ => ?_⟩
    refine ⟨fun _ => ?_, fun z => absurd rfl z⟩
    simp only [shA_45, shA_47, shZ_47, shR_45_2, shr_45_2, shR_45_3, shr_45_3, shR_45_4, shr_45_4, shR_45_5, shr_45_5, shR_45_7, shr_45_7, shR_45_16, shr_45_16, shR_45_18, shr_45_18, shR_45_19, shr_45_19, shR_45_21, shr_45_21, shR_45_22, shr_45_22, shR_45_25, shr_45_25, shR_45_26, shr_45_26, shR_45_28, shr_45_28, shR_45_29, shr_45_29, shR_45_33, shr_45_33, shR_45_34, shr_45_34, shR_45_35, shr_45_35, shR_45_36, shr_45_36, shR_45_37, shr_45_37, shR_45_38, shr_45_38, shR_45_39, shr_45_39, shR_45_40, shr_45_40, shR_45_42, shr_45_42, hsM, hs, vpin_2, vpin_3, vpin_4, vpin_5, vpin_6, vpin_7, vpin_9, vpin_12, vpin_13, vpin_16, vpin_32, vpin_60, vpin_96, vpin_400, vpin_401, vpin_540, vpin_4320, vpin_4608, vpin_5600, vpin_11200, vpin_276480, e47, ne_eq, not_false_eq_true, not_true_eq_false, reduceCtorEq, Nat.reduceEqDiff, forall_eq, true_and, and_true, true_implies, forall_const, implies_true, List.mem_cons, List.not_mem_nil, or_false, false_or, or_self, if_true, if_false, reduceIte, Nat.reduceAdd, Nat.reduceMul, Nat.reduceLT, false_implies, Decidable.not_not, bI_eq0, bI_eq1, upd_at, updL_at, Nat.succ_ne_zero, Int32.reduceToNatClampNeg, eq_self, i01, i10]
    exact ⟨by decide, hq'⟩
  · subst e
    simp only [shA_0, shA_1, shR_0_0, shr_0_0, shR_0_1, shr_0_1, shR_0_2, shr_0_2, shR_0_3, shr_0_3, shR_0_4, shr_0_4, shR_0_5, shr_0_5, shR_0_6, shr_0_6, shR_0_7, shr_0_7, shR_0_8, shr_0_8, shR_0_9, shr_0_9, shR_1_4, shr_1_4, shR_1_5, shr_1_5, shR_1_6, shr_1_6, shR_1_9, shr_1_9, shR_1_11, shr_1_11, hs, ne_eq, not_false_eq_true, not_true_eq_false, reduceCtorEq, Nat.reduceEqDiff, forall_eq, true_and, and_true, true_implies, forall_const, implies_true, List.mem_cons, List.not_mem_nil, or_false, false_or, or_self, if_true, if_false, reduceIte, Nat.reduceAdd, Nat.reduceMul, Nat.reduceLT, false_implies, Decidable.not_not, bI_eq0, bI_eq1, upd_at, updL_at, Nat.succ_ne_zero, Int32.reduceToNatClampNeg, eq_self, i01, i10]
    rw [q2.2]
    refine mdl _ (fun X Q' hq' => ?_)
    unfold bX12_count_7
    refine ⟨fun _ => ?_, fun z => absurd (by decide) z⟩
    refine ⟨fun z => absurd z (by decide), fun _ => ?_⟩
    refine ⟨fun z => absurd z (by decide), fun _ => ?_⟩
    refine ⟨fun z => absurd z (by decide), fun _ => ?_⟩
    refine ⟨fun z => absurd z (by decide), fun _ => ?_⟩
    refine ⟨fun z => absurd z (by decide), fun _ => ?_⟩
    refine ⟨fun z => absurd z (by decide), fun _ => ?_⟩
    refine ⟨fun z => absurd z (by decide), fun _ => ?_⟩
    refine ⟨fun z => absurd z (by decide), fun _ => ?_⟩
    refine ⟨fun z => absurd z (by decide), fun _ => ?_⟩
    refine ⟨fun z => absurd z (by decide), fun _ => ?_⟩
    refine ⟨fun z => absurd z (by decide), fun _ => ?_⟩
    refine ⟨fun z => absurd z (by decide), fun _ => ?_⟩
    refine ⟨fun z => absurd z (by decide), fun _ => ?_⟩
    refine ⟨fun z => absurd z (by decide), fun _ => ?_⟩
    refine ⟨fun _ => ?_, fun z => absurd rfl z⟩
    simp only [shA_45, shA_47, shZ_47, shR_45_2, shr_45_2, shR_45_3, shr_45_3, shR_45_4, shr_45_4, shR_45_5, shr_45_5, shR_45_7, shr_45_7, shR_45_16, shr_45_16, shR_45_18, shr_45_18, shR_45_19, shr_45_19, shR_45_21, shr_45_21, shR_45_22, shr_45_22, shR_45_25, shr_45_25, shR_45_26, shr_45_26, shR_45_28, shr_45_28, shR_45_29, shr_45_29, shR_45_33, shr_45_33, shR_45_34, shr_45_34, shR_45_35, shr_45_35, shR_45_36, shr_45_36, shR_45_37, shr_45_37, shR_45_38, shr_45_38, shR_45_39, shr_45_39, shR_45_40, shr_45_40, shR_45_42, shr_45_42, hsM, hs, vpin_2, vpin_3, vpin_4, vpin_5, vpin_6, vpin_7, vpin_9, vpin_12, vpin_13, vpin_16, vpin_32, vpin_60, vpin_96, vpin_400, vpin_401, vpin_540, vpin_4320, vpin_4608, vpin_5600, vpin_11200, vpin_276480, e47, ne_eq, not_false_eq_true, not_true_eq_false, reduceCtorEq, Nat.reduceEqDiff, forall_eq, true_and, and_true, true_implies, forall_const, implies_true, List.mem_cons, List.not_mem_nil, or_false, false_or, or_self, if_true, if_false, reduceIte, Nat.reduceAdd, Nat.reduceMul, Nat.reduceLT, false_implies, Decidable.not_not, bI_eq0, bI_eq1, upd_at, updL_at, Nat.succ_ne_zero, Int32.reduceToNatClampNeg, eq_self, i01, i10]
    exact ⟨by decide, hq'⟩
  · subst e
    simp only [shA_0, shA_1, shR_0_0, shr_0_0, shR_0_1, shr_0_1, shR_0_2, shr_0_2, shR_0_3, shr_0_3, shR_0_4, shr_0_4, shR_0_5, shr_0_5, shR_0_6, shr_0_6, shR_0_7, shr_0_7, shR_0_8, shr_0_8, shR_0_9, shr_0_9, shR_1_4, shr_1_4, shR_1_5, shr_1_5, shR_1_6, shr_1_6, shR_1_9, shr_1_9, shR_1_11, shr_1_11, hs, ne_eq, not_false_eq_true, not_true_eq_false, reduceCtorEq, Nat.reduceEqDiff, forall_eq, true_and, and_true, true_implies, forall_const, implies_true, List.mem_cons, List.not_mem_nil, or_false, false_or, or_self, if_true, if_false, reduceIte, Nat.reduceAdd, Nat.reduceMul, Nat.reduceLT, false_implies, Decidable.not_not, bI_eq0, bI_eq1, upd_at, updL_at, Nat.succ_ne_zero, Int32.reduceToNatClampNeg, eq_self, i01, i10]
    rw [q3.2]
    refine mdl _ (fun X Q' hq' => ?_)
    unfold bX12_count_7
    refine ⟨fun _ => ?_, fun z => absurd (by decide) z⟩
    refine ⟨fun z => absurd z (by decide), fun _ => ?_⟩
    refine ⟨fun z => absurd z (by decide), fun _ => ?_⟩
    refine ⟨fun z => absurd z (by decide), fun _ => ?_⟩
    refine ⟨fun z => absurd z (by decide), fun _ => ?_⟩
    refine ⟨fun z => absurd z (by decide), fun _ => ?_⟩
    refine ⟨fun z => absurd z (by decide), fun _ => ?_⟩
    refine ⟨fun z => absurd z (by decide), fun _ => ?_⟩
    refine ⟨fun z => absurd z (by decide), fun _ => ?_⟩
    refine ⟨fun z => absurd z (by decide), fun _ => ?_⟩
    refine ⟨fun z => absurd z (by decide), fun _ => ?_⟩
    refine ⟨fun z => absurd z (by decide), fun _ => ?_⟩
    refine ⟨fun z => absurd z (by decide), fun _ => ?_⟩
    refine ⟨fun z => absurd z (by decide), fun _ => ?_⟩
    refine ⟨fun z => absurd z (by decide), fun _ => ?_⟩
    refine ⟨fun z => absurd z (by decide), fun _ => ?_⟩
    refine ⟨fun _ => ?_, fun z => absurd rfl z⟩
    simp only [shA_45, shA_47, shZ_47, shR_45_2, shr_45_2, shR_45_3, shr_45_3, shR_45_4, shr_45_4, shR_45_5, shr_45_5, shR_45_7, shr_45_7, shR_45_16, shr_45_16, shR_45_18, shr_45_18, shR_45_19, shr_45_19, shR_45_21, shr_45_21, shR_45_22, shr_45_22, shR_45_25, shr_45_25, shR_45_26, shr_45_26, shR_45_28, shr_45_28, shR_45_29, shr_45_29, shR_45_33, shr_45_33, shR_45_34, shr_45_34, shR_45_35, shr_45_35, shR_45_36, shr_45_36, shR_45_37, shr_45_37, shR_45_38, shr_45_38, shR_45_39, shr_45_39, shR_45_40, shr_45_40, shR_45_42, shr_45_42, hsM, hs, vpin_2, vpin_3, vpin_4, vpin_5, vpin_6, vpin_7, vpin_9, vpin_12, vpin_13, vpin_16, vpin_32, vpin_60, vpin_96, vpin_400, vpin_401, vpin_540, vpin_4320, vpin_4608, vpin_5600, vpin_11200, vpin_276480, e47, ne_eq, not_false_eq_true, not_true_eq_false, reduceCtorEq, Nat.reduceEqDiff, forall_eq, true_and, and_true, true_implies, forall_const, implies_true, List.mem_cons, List.not_mem_nil, or_false, false_or, or_self, if_true, if_false, reduceIte, Nat.reduceAdd, Nat.reduceMul, Nat.reduceLT, false_implies, Decidable.not_not, bI_eq0, bI_eq1, upd_at, updL_at, Nat.succ_ne_zero, Int32.reduceToNatClampNeg, eq_self, i01, i10]
    exact ⟨by decide, hq'⟩
  · refine mdl _ (fun X Q' hq' => ?_)
    unfold bX12_count_7
    refine ⟨fun _ => ?_, fun z => absurd (by decide) z⟩
    refine ⟨fun z => absurd z n0, fun _ => ?_⟩
    refine ⟨fun z => absurd z n1, fun _ => ?_⟩
    refine ⟨fun z => absurd z n2, fun _ => ?_⟩
    refine ⟨fun z => absurd z n3, fun _ => ?_⟩
    refine ⟨fun z => absurd z n4, fun _ => ?_⟩
    refine ⟨fun z => absurd z n5, fun _ => ?_⟩
    refine ⟨fun z => absurd z n6, fun _ => ?_⟩
    refine ⟨fun z => absurd z n7, fun _ => ?_⟩
    refine ⟨fun z => absurd z n8, fun _ => ?_⟩
    refine ⟨fun z => absurd z n9, fun _ => ?_⟩
    refine ⟨fun z => absurd z n10, fun _ => ?_⟩
    refine ⟨fun z => absurd z n11, fun _ => ?_⟩
    refine ⟨fun z => absurd z n12, fun _ => ?_⟩
    refine ⟨fun z => absurd z n13, fun _ => ?_⟩
    refine ⟨fun z => absurd z n14, fun _ => ?_⟩
    refine ⟨fun z => absurd z n15, fun _ => ?_⟩
    exact hq'
