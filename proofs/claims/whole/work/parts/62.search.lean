/-- the model's looks -/
theorem ms_looks {S : JS} {Q : Int64 → JS → Prop} {W : Nat → Nat} {s n : Nat} {y : Int32} (hs : jSh S) (hm : MW S) (hW : ∀ c, c < 12 → W c ≤ 99 ∧ jI S 47 (188 + c) = nI (W c)) (hs1 : s ≤ 100) (hse : jI S 47 2 = nI s) (hn : n ≤ 6) (h : ∀ S' (v : Int32), jFr [67] S S' → (n = 0 → v = -1) → (∀ k, n = k + 1 → v = nI (bst (gLk W s k) 11)) → (¬ y = 0 → (¬ y = 1 → Q (v.toInt64) S') ∧ (y = 1 → Q (lN (gWh W 12 * 100 ^ n)) S')) ∧ (y = 0 → Q (lN (gFd W s n)) S')) : wX12_search_45 45 (nI n) y (lN (gWh W 12)) S Q := by
  unfold wX12_search_45 wX12_search_49
  refine jLoop.cnt n (fun k q => q = (45, nI n, y, lN (gWh W 12), lN (100 ^ k), nI k, S)) 0 (by omega) ?_ rfl
  rintro k _ hk rfl
  unfold bX12_search_49
  simp only
  rw [nI_le' (by omega) (by omega)]
  refine ⟨fun z => ?_, fun z => ?_⟩
  · have : k = n := by omega
    subst this
    unfold wX12_search_60
    refine jLoop.cnt 12 (fun c q => ∃ S', q = (45, nI k, y, lN (gWh W 12), lN (100 ^ k), nI c, S') ∧ jFr [67] S S' ∧ ∀ d, d < c → jJ S' 67 d = lN (W d * 100 ^ k)) 0 (by omega) ?_ ⟨S, rfl, jFr.refl _ _, fun d q => absurd q (Nat.not_lt_zero _)⟩
    rintro c _ hc ⟨S1, rfl, f1, j1⟩
    have hs1' := f1.sh.mpr hs
    unfold bX12_search_60
    simp only [shA_45, shA_47, shZ_47, shA_67, shZ_67, shR_45_2, shr_45_2, shR_45_3, shr_45_3, shR_45_4, shr_45_4, shR_45_5, shr_45_5, shR_45_7, shr_45_7, shR_45_16, shr_45_16, shR_45_18, shr_45_18, shR_45_19, shr_45_19, shR_45_21, shr_45_21, shR_45_22, shr_45_22, shR_45_25, shr_45_25, shR_45_26, shr_45_26, shR_45_28, shr_45_28, shR_45_29, shr_45_29, shR_45_33, shr_45_33, shR_45_34, shr_45_34, shR_45_35, shr_45_35, shR_45_36, shr_45_36, shR_45_37, shr_45_37, shR_45_38, shr_45_38, shR_45_39, shr_45_39, shR_45_40, shr_45_40, shR_45_42, shr_45_42, hs1', f1.I 47 (by decide), ne_eq, not_false_eq_true, not_true_eq_false, reduceCtorEq, Nat.reduceEqDiff, forall_eq, true_and, and_true, true_implies, forall_const, implies_true, List.mem_cons, List.not_mem_nil, or_false, false_or, or_self, if_true, if_false, reduceIte, Nat.reduceAdd, Nat.reduceMul, Nat.reduceLT, false_implies, Decidable.not_not, bI_eq0, bI_eq1, upd_at, updL_at, Nat.succ_ne_zero, Int32.reduceToNatClampNeg, eq_self, i01, i10]
    simp (disch := omega) only [li_12, li_188, li_1, nI_add, nI_inT, nI_tn, nI_le', ne_eq, not_false_eq_true, not_true_eq_false, reduceCtorEq, Nat.reduceEqDiff, forall_eq, true_and, and_true, true_implies, forall_const, implies_true, List.mem_cons, List.not_mem_nil, or_false, false_or, or_self, if_true, if_false, reduceIte, Nat.reduceAdd, Nat.reduceMul, Nat.reduceLT, false_implies, Decidable.not_not, bI_eq0, bI_eq1, upd_at, updL_at, Nat.succ_ne_zero, Int32.reduceToNatClampNeg, eq_self, i01, i10]
    refine ⟨fun z2 => ?_, fun z2 => ?_⟩
    · have : c = 12 := by omega
      subst this
      unfold wX12_search_84
      refine jLoop.cnt k (fun j q => ∃ S' v, q = (45, nI k, y, lN (gWh W 12), lN (100 ^ k), lN (gFd W s j * 100 ^ (k - j)), v, nI j, S') ∧ jFr [67] S S' ∧ (∀ d, d < 12 → jJ S' 67 d = lN (gLk W s j d * 100 ^ (k - j))) ∧ (j = 0 → v = -1) ∧ ∀ m, j = m + 1 → v = nI (bst (gLk W s m) 11)) 0 (by omega) ?_ ⟨S1, -1, by rw [gFd, Nat.zero_mul]; rfl, f1, fun d hd => j1 d hd, fun _ => rfl, fun m e => by omega⟩
      rintro j _ hj ⟨S2, v, rfl, f2, b2, v1, v2⟩
      have hs2 := f2.sh.mpr hs
      unfold bX12_search_84
      simp only
      rw [nI_le' (by omega) (by omega)]
      refine ⟨fun z3 => ?_, fun z3 => ?_⟩
      · have : j = k := by omega
        subst this
        have := h S2 v f2 v1 v2
        rw [lN_mul, Nat.sub_self, Nat.pow_zero, Nat.mul_one]; exact this
      · obtain ⟨m, hm1⟩ : ∃ m, k - j = m + 1 := ⟨k - j - 1, by omega⟩
        have hm2 : k - (j + 1) = m := by omega
        obtain ⟨pa, pb⟩ := p100 k (by omega)
        have p6 : ∀ d, d < 12 → gLk W s j d * 100 ^ (m + 1) < 9000000000000000 := fun d hd => by
          have a1 := gLk_b (s := s) (fun c hc => (hW c hc).1) hd j
          have a2 : gLk W s j d * 100 ^ (m + 1) ≤ 99 * 100 ^ j * 100 ^ (m + 1) := Nat.mul_le_mul_right _ a1
          rw [Nat.mul_assoc, ← Nat.pow_add, show j + (m + 1) = k by omega] at a2
          omega
        rw [hm1] at b2 ⊢
        unfold wX12_search_91
        refine jLoop.cnt 11 (fun e q => q = (45, nI k, y, lN (gWh W 12), lN (100 ^ k), lN (gFd W s j * 100 ^ (m + 1)), nI (bst (fun d => gLk W s j d * 100 ^ (m + 1)) e), nI j, nI (e + 1), S2)) 0 (by omega) ?_ rfl
        rintro e _ he rfl
        have hb := bst_le (fun d => gLk W s j d * 100 ^ (m + 1)) e
        have e100 : ¬ (100 : Int64) = 0 := by decide
        unfold bX12_search_91 wX12_search_107
        simp only [shA_45, shA_47, shZ_47, shA_67, shZ_67, shR_45_2, shr_45_2, shR_45_3, shr_45_3, shR_45_4, shr_45_4, shR_45_5, shr_45_5, shR_45_7, shr_45_7, shR_45_16, shr_45_16, shR_45_18, shr_45_18, shR_45_19, shr_45_19, shR_45_21, shr_45_21, shR_45_22, shr_45_22, shR_45_25, shr_45_25, shR_45_26, shr_45_26, shR_45_28, shr_45_28, shR_45_29, shr_45_29, shR_45_33, shr_45_33, shR_45_34, shr_45_34, shR_45_35, shr_45_35, shR_45_36, shr_45_36, shR_45_37, shr_45_37, shR_45_38, shr_45_38, shR_45_39, shr_45_39, shR_45_40, shr_45_40, shR_45_42, shr_45_42, hs2, f2.I 47 (by decide), hse, lg_cmp_le, e100, ne_eq, not_false_eq_true, not_true_eq_false, reduceCtorEq, Nat.reduceEqDiff, forall_eq, true_and, and_true, true_implies, forall_const, implies_true, List.mem_cons, List.not_mem_nil, or_false, false_or, or_self, if_true, if_false, reduceIte, Nat.reduceAdd, Nat.reduceMul, Nat.reduceLT, false_implies, Decidable.not_not, bI_eq0, bI_eq1, upd_at, updL_at, Nat.succ_ne_zero, Int32.reduceToNatClampNeg, eq_self, i01, i10]
        simp (disch := omega) only [li_12, li_2, li_1, nI_add, nI_inT, nI_tn, nI_le', nI_toL, ne_eq, not_false_eq_true, not_true_eq_false, reduceCtorEq, Nat.reduceEqDiff, forall_eq, true_and, and_true, true_implies, forall_const, implies_true, List.mem_cons, List.not_mem_nil, or_false, false_or, or_self, if_true, if_false, reduceIte, Nat.reduceAdd, Nat.reduceMul, Nat.reduceLT, false_implies, Decidable.not_not, bI_eq0, bI_eq1, upd_at, updL_at, Nat.succ_ne_zero, Int32.reduceToNatClampNeg, eq_self, i01, i10]
        rw [b2 _ (show bst (fun d => gLk W s j d * 100 ^ (m + 1)) e < 12 by omega)]
        refine ⟨fun z4 => ?_, fun z4 => ?_⟩
        · have : e = 11 := by omega
          subst this
          have eb : bst (fun d => gLk W s j d * 100 ^ (m + 1)) 11 = bst (gLk W s j) 11 := bst_mul (Nat.pow_pos (by omega)) (fun c hc => rfl)
          have hbl := bst_le (gLk W s j) 11
          rw [eb]
          generalize ebb : bst (gLk W s j) 11 = B at *
          have p6B := p6 B (by omega)
          have d1 : lN (gLk W s j B * 100 ^ (m + 1)) / 100 * lN s = lN (gLk W s j B * 100 ^ m * s) := by
            rw [show (100 : Int64) = lN 100 from rfl, pk_lDiv (by omega) (by omega) (by omega), lN_mul, Nat.pow_succ, ← Nat.mul_assoc, Nat.mul_div_cancel _ (by omega)]
          have le1 : gLk W s j B * 100 ^ m * s ≤ gLk W s j B * 100 ^ (m + 1) := by
            rw [Nat.pow_succ, ← Nat.mul_assoc]; exact Nat.mul_le_mul_left _ hs1
          rw [d1, lN_add, lN_sub le1]
          refine ⟨by omega, uJ S2 67 B (lN (gLk W s j B * 100 ^ (m + 1) - gLk W s j B * 100 ^ m * s)), nI B, ?_, f2.uJ (by decide), fun d hd => ?_, fun q hq => ?_⟩
          · rw [gFd, hm2, ebb]
            congr 8
            rw [Nat.pow_succ, Nat.add_mul]
            congr 1
            · rw [Nat.mul_assoc, Nat.mul_comm 100]
            · rw [Nat.mul_assoc, Nat.mul_assoc, Nat.mul_comm s]
          · simp only [jN_uI, jN_uJ, jN_uR, jK_uI, jK_uJ, jK_uR, jZ_uI, jZ_uJ, jZ_uR, jR_uI, jR_uJ, jr_uI, jr_uJ, jI_uJ, jI_uR, jJ_uI, jJ_uR, jI_uI_eq, jI_uI_ne, jJ_uJ_eq, jJ_uJ_ne, jSh_uI, jSh_uJ, jA_uI, jA_uJ, jA_uR, jI_uIf_eq, jI_uIf_ne, jJ_uIf, jR_uIf, jr_uIf, jZ_uIf, jSh_uIf, jA_uIf, ne_eq, not_false_eq_true, not_true_eq_false, reduceCtorEq, Nat.reduceEqDiff, forall_eq, true_and, and_true, true_implies, forall_const, implies_true, List.mem_cons, List.not_mem_nil, or_false, false_or, or_self, if_true, if_false, reduceIte, Nat.reduceAdd, Nat.reduceMul, Nat.reduceLT, false_implies, Decidable.not_not, bI_eq0, bI_eq1, upd_at, updL_at, Nat.succ_ne_zero, Int32.reduceToNatClampNeg, eq_self, i01, i10]
            rw [hm2, gLk, ebb]
            split
            · rename_i ed
              subst ed
              congr 1
              rw [Nat.pow_succ, Nat.mul_assoc, ← Nat.mul_sub, Nat.mul_assoc]
              congr 1
              rw [← Nat.mul_sub, Nat.mul_comm]
            · rw [b2 d hd, Nat.pow_succ, Nat.mul_assoc, Nat.mul_comm 100]
          · subst hq; rw [ebb]
        · rw [b2 (e + 1) (by omega), lN_le' (p6 _ (by omega)) (p6 _ (by omega))]
          refine ⟨nI_in2 (by omega) (by omega), fun z5 => ⟨by omega, ?_⟩, fun z5 => ⟨by omega, ?_⟩⟩
          · rw [bst, if_neg (Nat.not_lt.mpr z5)]
          · rw [bst, if_pos (Nat.lt_of_not_le z5)]
    · obtain ⟨w1, w2⟩ := hW c (by omega)
      rw [w2, nI_toL (by omega), lN_mul]
      refine ⟨nI_in2 (by omega) (by omega), by omega, _, rfl, f1.uJ (by decide), fun d hd => ?_⟩
      simp only [jN_uI, jN_uJ, jN_uR, jK_uI, jK_uJ, jK_uR, jZ_uI, jZ_uJ, jZ_uR, jR_uI, jR_uJ, jr_uI, jr_uJ, jI_uJ, jI_uR, jJ_uI, jJ_uR, jI_uI_eq, jI_uI_ne, jJ_uJ_eq, jJ_uJ_ne, jSh_uI, jSh_uJ, jA_uI, jA_uJ, jA_uR, jI_uIf_eq, jI_uIf_ne, jJ_uIf, jR_uIf, jr_uIf, jZ_uIf, jSh_uIf, jA_uIf, ne_eq, not_false_eq_true, not_true_eq_false, reduceCtorEq, Nat.reduceEqDiff, forall_eq, true_and, and_true, true_implies, forall_const, implies_true, List.mem_cons, List.not_mem_nil, or_false, false_or, or_self, if_true, if_false, reduceIte, Nat.reduceAdd, Nat.reduceMul, Nat.reduceLT, false_implies, Decidable.not_not, bI_eq0, bI_eq1, upd_at, updL_at, Nat.succ_ne_zero, Int32.reduceToNatClampNeg, eq_self, i01, i10]
      split
      · rename_i e; rw [e]
      · exact j1 d (by omega)
  · rw [show (100 : Int64) = lN 100 from rfl, lN_mul, nI_1]
    exact nm_e (nm_e ⟨by omega, by rw [Nat.pow_succ]⟩)
