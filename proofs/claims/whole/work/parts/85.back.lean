/-! BACK -/
theorem ml_back {M : JS} {Q : Int32 → JS → Prop} {k : Nat} (hs : jSh M) (hk : k < 2) (h : ∀ X, jFr [45, 47] M X → jFk 45 [1] M X → jI X 45 1 = 0 → (∀ j, j < 5600 → jI X 47 j = jI M 48 (5600 * k + j)) → Q 0 X) : wX12_back_24 45 (nI k) 0 M Q := by
  unfold wX12_back_24
  refine jLoop.cnt 5600 (fun c q => ∃ X, q = (45, nI k, nI c, X) ∧ jFr [47] M X ∧ ∀ j, j < c → jI X 47 j = jI M 48 (5600 * k + j)) 0 (by omega) ?_ ⟨M, rfl, jFr.refl _ _, fun j hj => absurd hj (Nat.not_lt_zero _)⟩
  rintro c _ hc ⟨X, rfl, f, e⟩
  have hsX := f.sh.mpr hs
  unfold bX12_back_24
  simp only [shA_45, shA_47, shZ_47, shA_48, shZ_48, shR_45_2, shr_45_2, shR_45_3, shr_45_3, shR_45_4, shr_45_4, shR_45_5, shr_45_5, shR_45_7, shr_45_7, shR_45_16, shr_45_16, shR_45_18, shr_45_18, shR_45_19, shr_45_19, shR_45_21, shr_45_21, shR_45_22, shr_45_22, shR_45_25, shr_45_25, shR_45_26, shr_45_26, shR_45_28, shr_45_28, shR_45_29, shr_45_29, shR_45_33, shr_45_33, shR_45_34, shr_45_34, shR_45_35, shr_45_35, shR_45_36, shr_45_36, shR_45_37, shr_45_37, shR_45_38, shr_45_38, shR_45_39, shr_45_39, shR_45_40, shr_45_40, shR_45_42, shr_45_42, hsX, f.I 48 (by decide), nI_1, jN_uI, jN_uJ, jN_uR, jK_uI, jK_uJ, jK_uR, jZ_uI, jZ_uJ, jZ_uR, jR_uI, jR_uJ, jr_uI, jr_uJ, jI_uJ, jI_uR, jJ_uI, jJ_uR, jI_uI_eq, jI_uI_ne, jJ_uJ_eq, jJ_uJ_ne, jSh_uI, jSh_uJ, jA_uI, jA_uJ, jA_uR, jI_uIf_eq, jI_uIf_ne, jJ_uIf, jR_uIf, jr_uIf, jZ_uIf, jSh_uIf, jA_uIf, ne_eq, not_false_eq_true, not_true_eq_false, reduceCtorEq, Nat.reduceEqDiff, forall_eq, true_and, and_true, true_implies, forall_const, implies_true, List.mem_cons, List.not_mem_nil, or_false, false_or, or_self, if_true, if_false, reduceIte, Nat.reduceAdd, Nat.reduceMul, Nat.reduceLT, false_implies, Decidable.not_not, bI_eq0, bI_eq1, upd_at, updL_at, Nat.succ_ne_zero, Int32.reduceToNatClampNeg, eq_self, i01, i10]
  simp (disch := omega) only [li_5600, nI_le', nI_mul, nI_add, nI_tn, nI_inT, ne_eq, not_false_eq_true, not_true_eq_false, reduceCtorEq, Nat.reduceEqDiff, forall_eq, true_and, and_true, true_implies, forall_const, implies_true, List.mem_cons, List.not_mem_nil, or_false, false_or, or_self, if_true, if_false, reduceIte, Nat.reduceAdd, Nat.reduceMul, Nat.reduceLT, false_implies, Decidable.not_not, bI_eq0, bI_eq1, upd_at, updL_at, Nat.succ_ne_zero, Int32.reduceToNatClampNeg, eq_self, i01, i10]
  refine ⟨fun z => ?_, fun z => ⟨nI_in2 (by omega) (by omega), nI_in2 (by omega) (by omega), by omega, _, rfl, f.uI (by decide), fun j hj => ?_⟩⟩
  · have : c = 5600 := by omega
    subst this
    exact sX12_tell0 (v := 0) (by omega) hsX (h _ ((f.mono (by decide)).uI (by decide)) ((jFk.of f (by decide)).sI (by decide)) (by simp only [jN_uI, jN_uJ, jN_uR, jK_uI, jK_uJ, jK_uR, jZ_uI, jZ_uJ, jZ_uR, jR_uI, jR_uJ, jr_uI, jr_uJ, jI_uJ, jI_uR, jJ_uI, jJ_uR, jI_uI_eq, jI_uI_ne, jJ_uJ_eq, jJ_uJ_ne, jSh_uI, jSh_uJ, jA_uI, jA_uJ, jA_uR, jI_uIf_eq, jI_uIf_ne, jJ_uIf, jR_uIf, jr_uIf, jZ_uIf, jSh_uIf, jA_uIf, ne_eq, not_false_eq_true, not_true_eq_false, reduceCtorEq, Nat.reduceEqDiff, forall_eq, true_and, and_true, true_implies, forall_const, implies_true, List.mem_cons, List.not_mem_nil, or_false, false_or, or_self, if_true, if_false, reduceIte, Nat.reduceAdd, Nat.reduceMul, Nat.reduceLT, false_implies, Decidable.not_not, bI_eq0, bI_eq1, upd_at, updL_at, Nat.succ_ne_zero, Int32.reduceToNatClampNeg, eq_self, i01, i10]) (fun j hj => by simp only [jN_uI, jN_uJ, jN_uR, jK_uI, jK_uJ, jK_uR, jZ_uI, jZ_uJ, jZ_uR, jR_uI, jR_uJ, jr_uI, jr_uJ, jI_uJ, jI_uR, jJ_uI, jJ_uR, jI_uI_eq, jI_uI_ne, jJ_uJ_eq, jJ_uJ_ne, jSh_uI, jSh_uJ, jA_uI, jA_uJ, jA_uR, jI_uIf_eq, jI_uIf_ne, jJ_uIf, jR_uIf, jr_uIf, jZ_uIf, jSh_uIf, jA_uIf, ne_eq, not_false_eq_true, not_true_eq_false, reduceCtorEq, Nat.reduceEqDiff, forall_eq, true_and, and_true, true_implies, forall_const, implies_true, List.mem_cons, List.not_mem_nil, or_false, false_or, or_self, if_true, if_false, reduceIte, Nat.reduceAdd, Nat.reduceMul, Nat.reduceLT, false_implies, Decidable.not_not, bI_eq0, bI_eq1, upd_at, updL_at, Nat.succ_ne_zero, Int32.reduceToNatClampNeg, eq_self, i01, i10]; exact e j hj))
  · simp only [jN_uI, jN_uJ, jN_uR, jK_uI, jK_uJ, jK_uR, jZ_uI, jZ_uJ, jZ_uR, jR_uI, jR_uJ, jr_uI, jr_uJ, jI_uJ, jI_uR, jJ_uI, jJ_uR, jI_uI_eq, jI_uI_ne, jJ_uJ_eq, jJ_uJ_ne, jSh_uI, jSh_uJ, jA_uI, jA_uJ, jA_uR, jI_uIf_eq, jI_uIf_ne, jJ_uIf, jR_uIf, jr_uIf, jZ_uIf, jSh_uIf, jA_uIf, ne_eq, not_false_eq_true, not_true_eq_false, reduceCtorEq, Nat.reduceEqDiff, forall_eq, true_and, and_true, true_implies, forall_const, implies_true, List.mem_cons, List.not_mem_nil, or_false, false_or, or_self, if_true, if_false, reduceIte, Nat.reduceAdd, Nat.reduceMul, Nat.reduceLT, false_implies, Decidable.not_not, bI_eq0, bI_eq1, upd_at, updL_at, Nat.succ_ne_zero, Int32.reduceToNatClampNeg, eq_self, i01, i10, upd_at]
    by_cases e2 : j = c
    · subst e2; rw [if_pos rfl]
    · rw [if_neg e2]; exact e j (by omega)
theorem q_back {S : JS} {Q : Int32 → JS → Prop} {x : Int32} (hI : Inv S) (hq : ∀ r S1, Mdl (wX12_back 45 x) S r S1 → Q r S1) : wX11_back 0 x S Q := by
  have hs := hI.1
  have hN69 := hs.1
  have no : ¬ (0 ≤ x ∧ x ≤ 1) → wX11_back_5 0 S Q := by
    intro hx
    unfold wX11_back_5
    refine ⟨shA_0 hs, sX11_ref 0 1 (Or.inl ⟨rfl, rfl, rfl⟩) hI hq (fun S1 Q' hA k => ?_)⟩
    unfold wX12_back
    refine ⟨hA, fun M eM => ?_⟩
    obtain ⟨hsM, hmM, eMI, kM, ht⟩ := k M eM
    exact sX12_in' 0 1 rfl rfl (fun h3 h4 => absurd ⟨h3, h4⟩ hx) (fun _ => ⟨fun q => absurd rfl q, fun _ => ⟨shA_45 hsM, ht⟩⟩)
  unfold wX11_back
  refine ⟨fun z => no (fun w => by have := w.1; lia), fun z => ⟨fun z2 => ?_, fun z2 => no (fun w => z2 (by have := w.2; lia))⟩⟩
  obtain ⟨k, hk, rfl⟩ := nI_of2 (M := 1) (n := 1) rfl z (by lia)
  have hk2 : k < 2 := by omega
  obtain ⟨im0, im1, imd⟩ := hI.2.2.2.2.2.2.2.2.2.1
  have imk : ∀ i, i < 2 → IMk S i := fun i hi => by
    rcases (by omega : i = 0 ∨ i = 1) with e | e <;> subst e
    · exact im0
    · exact im1
  simp only [shA_0, shA_13, shZ_13, shR_0_0, shr_0_0, shR_0_1, shr_0_1, shR_0_2, shr_0_2, shR_0_3, shr_0_3, shR_0_4, shr_0_4, shR_0_5, shr_0_5, shR_0_6, shr_0_6, shR_0_7, shr_0_7, shR_0_8, shr_0_8, shR_0_9, shr_0_9, hs, ne_eq, not_false_eq_true, not_true_eq_false, reduceCtorEq, Nat.reduceEqDiff, forall_eq, true_and, and_true, true_implies, forall_const, implies_true, List.mem_cons, List.not_mem_nil, or_false, false_or, or_self, if_true, if_false, reduceIte, Nat.reduceAdd, Nat.reduceMul, Nat.reduceLT, false_implies, Decidable.not_not, bI_eq0, bI_eq1, upd_at, updL_at, Nat.succ_ne_zero, Int32.reduceToNatClampNeg, eq_self, i01, i10]
  rw [nI_tn (by omega)]
  refine ⟨nI_in2 (by omega) (by omega), ?_⟩
  rcases imk k hk2 with ⟨a1, a2⟩ | ⟨a1, w, a2, a3, a4, a5, a6⟩
  · rw [a2]
    refine ⟨fun _ => ?_, fun y => absurd rfl y⟩
    refine sX11_ref 1 2 (Or.inr (Or.inl ⟨rfl, rfl, rfl⟩)) hI hq (fun S1 Q' hA kk => ?_)
    unfold wX12_back
    refine ⟨hA, fun M eM => ?_⟩
    obtain ⟨hsM, hmM, eMI, kM, ht⟩ := kk M eM
    refine sX12_in' 0 1 rfl rfl (fun _ _ => ⟨fun _ => ?_, fun y => absurd y (by decide)⟩) (fun h => absurd (ex1 hk2) h)
    simp only [shA_45, shA_49, shZ_49, shR_45_2, shr_45_2, shR_45_3, shr_45_3, shR_45_4, shr_45_4, shR_45_5, shr_45_5, shR_45_7, shr_45_7, shR_45_16, shr_45_16, shR_45_18, shr_45_18, shR_45_19, shr_45_19, shR_45_21, shr_45_21, shR_45_22, shr_45_22, shR_45_25, shr_45_25, shR_45_26, shr_45_26, shR_45_28, shr_45_28, shR_45_29, shr_45_29, shR_45_33, shr_45_33, shR_45_34, shr_45_34, shR_45_35, shr_45_35, shR_45_36, shr_45_36, shR_45_37, shr_45_37, shR_45_38, shr_45_38, shR_45_39, shr_45_39, shR_45_40, shr_45_40, shR_45_42, shr_45_42, hsM, eMI 49 (by decide), ne_eq, not_false_eq_true, not_true_eq_false, reduceCtorEq, Nat.reduceEqDiff, forall_eq, true_and, and_true, true_implies, forall_const, implies_true, List.mem_cons, List.not_mem_nil, or_false, false_or, or_self, if_true, if_false, reduceIte, Nat.reduceAdd, Nat.reduceMul, Nat.reduceLT, false_implies, Decidable.not_not, bI_eq0, bI_eq1, upd_at, updL_at, Nat.succ_ne_zero, Int32.reduceToNatClampNeg, eq_self, i01, i10]
    rw [nI_tn (by omega), a1]
    exact ⟨nI_in2 (by omega) (by omega), fun y => absurd rfl y, fun _ => ht⟩
  · rw [a3, jr_of a3]
    refine ⟨fun y => by (cases y), fun _ => ?_⟩
    have hG := hI.2.2.2.2.2.2.2.2.2.2
    simp only [shA_0, shA_1, shR_0_0, shr_0_0, shR_0_1, shr_0_1, shR_0_2, shr_0_2, shR_0_3, shr_0_3, shR_0_4, shr_0_4, shR_0_5, shr_0_5, shR_0_6, shr_0_6, shR_0_7, shr_0_7, shR_0_8, shr_0_8, shR_0_9, shr_0_9, shR_1_4, shr_1_4, shR_1_5, shr_1_5, shR_1_6, shr_1_6, shR_1_9, shr_1_9, shR_1_11, shr_1_11, hs, ne_eq, not_false_eq_true, not_true_eq_false, reduceCtorEq, Nat.reduceEqDiff, forall_eq, true_and, and_true, true_implies, forall_const, implies_true, List.mem_cons, List.not_mem_nil, or_false, false_or, or_self, if_true, if_false, reduceIte, Nat.reduceAdd, Nat.reduceMul, Nat.reduceLT, false_implies, Decidable.not_not, bI_eq0, bI_eq1, upd_at, updL_at, Nat.succ_ne_zero, Int32.reduceToNatClampNeg, eq_self, i01, i10]
    refine sX9_become (w := 1) (WS_1 hs) a4 (Or.inr (by omega)) a5 a6 (fun i h e => (hG.law hs a4 i h e).2) (fun S0 x0 n0 r0 r0' W0 => ?_)
    have hs0 : jSh S0 := x0.sh hs (fun h h1 z => Or.inl (by omega))
    simp only [shA_0, shA_23, shR_0_0, shr_0_0, shR_0_1, shr_0_1, shR_0_2, shr_0_2, shR_0_3, shr_0_3, shR_0_4, shr_0_4, shR_0_5, shr_0_5, shR_0_6, shr_0_6, shR_0_7, shr_0_7, shR_0_8, shr_0_8, shR_0_9, shr_0_9, shR_23_0, shr_23_0, shR_23_1, shr_23_1, shR_23_2, shr_23_2, hs0, ne_eq, not_false_eq_true, not_true_eq_false, reduceCtorEq, Nat.reduceEqDiff, forall_eq, true_and, and_true, true_implies, forall_const, implies_true, List.mem_cons, List.not_mem_nil, or_false, false_or, or_self, if_true, if_false, reduceIte, Nat.reduceAdd, Nat.reduceMul, Nat.reduceLT, false_implies, Decidable.not_not, bI_eq0, bI_eq1, upd_at, updL_at, Nat.succ_ne_zero, Int32.reduceToNatClampNeg, eq_self, i01, i10]
    refine sX1_forget (a := 0) (b := 59) hs0 (by omega) (by omega) (fun S1 ⟨f1, _, _, f4⟩ => ⟨shA_0 (f1.sh.mpr hs0), ?_⟩)
    have hs1 := f1.sh.mpr hs0
    refine sX11_acc' hs1 hq (fun S2 Q' hA kk hq' => ?_)
    unfold wX12_back
    refine ⟨hA, fun M eM => ?_⟩
    obtain ⟨hsM, fM, k0, k5, z12, z13⟩ := kk M eM
    have s0 : ∀ {h}, h < 69 → h < jN S := fun hh => Nat.lt_of_lt_of_le hh hN69
    have o : ∀ h, 13 ≤ h → h < 69 → h ≠ 27 → h ≠ 28 → jI S1 h = jI S h := fun h a b c d => by
      rw [f1.I h (by simp only [List.mem_cons, List.not_mem_nil, or_false]; omega), x0.I (s0 b) (by omega)]
    have o0 : jI S1 0 = jI S 0 := by rw [f1.I 0 (by decide), x0.I (s0 (by omega)) (by omega)]
    have m49 : jI M 49 = jI S 49 := by rw [fM.I 49 (by decide), o 49 (by omega) (by omega) (by omega) (by omega)]
    have m48 : jI M 48 = jI S 48 := by rw [fM.I 48 (by decide), o 48 (by omega) (by omega) (by omega) (by omega)]
    refine sX12_in' 0 1 rfl rfl (fun _ _ => ⟨fun _ => ?_, fun y => absurd y (by decide)⟩) (fun h => absurd (ex1 hk2) h)
    simp only [shA_45, shA_49, shZ_49, shR_45_2, shr_45_2, shR_45_3, shr_45_3, shR_45_4, shr_45_4, shR_45_5, shr_45_5, shR_45_7, shr_45_7, shR_45_16, shr_45_16, shR_45_18, shr_45_18, shR_45_19, shr_45_19, shR_45_21, shr_45_21, shR_45_22, shr_45_22, shR_45_25, shr_45_25, shR_45_26, shr_45_26, shR_45_28, shr_45_28, shR_45_29, shr_45_29, shR_45_33, shr_45_33, shR_45_34, shr_45_34, shR_45_35, shr_45_35, shR_45_36, shr_45_36, shR_45_37, shr_45_37, shR_45_38, shr_45_38, shR_45_39, shr_45_39, shR_45_40, shr_45_40, shR_45_42, shr_45_42, hsM, m49, ne_eq, not_false_eq_true, not_true_eq_false, reduceCtorEq, Nat.reduceEqDiff, forall_eq, true_and, and_true, true_implies, forall_const, implies_true, List.mem_cons, List.not_mem_nil, or_false, false_or, or_self, if_true, if_false, reduceIte, Nat.reduceAdd, Nat.reduceMul, Nat.reduceLT, false_implies, Decidable.not_not, bI_eq0, bI_eq1, upd_at, updL_at, Nat.succ_ne_zero, Int32.reduceToNatClampNeg, eq_self, i01, i10]
    rw [nI_tn (by omega), a1]
    refine ⟨nI_in2 (by omega) (by omega), fun _ => ?_, fun y => absurd y (by decide)⟩
    refine ml_back hsM hk2 (fun X fX kX z1 e47 => hq' X ?_ ?_)
    · rw [m48] at e47
      have xe : jEx (fun h => h = 0 ∨ (1 ≤ h ∧ h < 13) ∨ h = 27 ∨ h = 28 ∨ h = 45 ∨ h = 47) (fun h => h = 10) S X := by
        refine (((x0.mono (fun _ _ z => Or.inr (Or.inl z)) (fun _ _ z => z)).tr (jEx.of f1 (fun h hh => ?_))).tr (jEx.of fM (fun h hh => ?_))).tr (jEx.of fX (fun h hh => ?_))
        · simp only [List.mem_cons, List.not_mem_nil, or_false] at hh; omega
        · simp only [List.mem_cons, List.not_mem_nil, or_false] at hh; omega
        · simp only [List.mem_cons, List.not_mem_nil, or_false] at hh; omega
      have x45 : ∀ j, j ≠ 0 → j ≠ 1 → jI X 45 j = jI S 45 j := fun j a b => by
        rw [kX.I j (by simp only [List.mem_cons, List.not_mem_nil, or_false]; omega), k5.I j (by simp only [List.mem_cons, List.not_mem_nil, or_false]; omega), o 45 (by omega) (by omega) (by omega) (by omega)]
      have x0' : ∀ j, j ≠ 12 → j ≠ 13 → jI X 0 j = jI S 0 j := fun j a b => by
        rw [fX.I 0 (by decide), k0.I j (by simp only [List.mem_cons, List.not_mem_nil, or_false]; omega), o0]
      have old : ∀ h, 13 ≤ h → h < 69 → h ≠ 27 → h ≠ 28 → h ≠ 45 → h ≠ 47 → jI X h = jI S h := fun h a b c d e f => xe.I (s0 b) (by omega)
      have xR : jR X = jR S0 := by rw [fX.R, fM.R, f1.R]
      have imo : ∀ i, i < 2 → IMk S i → IMk X i := by
        intro i hi q
        have e9 : jI X 49 i = jI S 49 i := by rw [old 49 (by omega) (by omega) (by omega) (by omega) (by omega) (by omega)]
        have e13 : jR X 13 i = jR S 13 i := by rw [xe.R (s0 (by omega)) (by omega)]
        have e8 : jI X 48 = jI S 48 := old 48 (by omega) (by omega) (by omega) (by omega) (by omega) (by omega)
        rcases q with ⟨a1, a2⟩ | ⟨a1, v, a2, a3, a4, a5, a6⟩
        · exact Or.inl ⟨by rw [e9]; exact a1, by rw [e13]; exact a2⟩
        · refine Or.inr ⟨by rw [e9]; exact a1, v, a2, by rw [e13]; exact a3, a4.ex xe (fun j hj h9 => by omega), by rw [e8]; exact a5, ?_⟩
          rw [e8]
          refine WRw.ex xe a4 a6 (fun i h e => (hG.law hs a4 i h e).2) (fun j hj => by omega) (by omega) (fun i h e => ?_)
          obtain ⟨g1, g2⟩ := hG.law hs a4 i h e
          exact ⟨by omega, fun j hj => by omega⟩
      refine Inv.ex xe hI (fun h h1 z => by omega) (fun h h1 z => Or.inl z) (x45 43 (by omega) (by omega)) ⟨?_, ?_⟩ ?_ ?_ ⟨?_, ?_⟩ ⟨imo 0 (by omega) im0, imo 1 (by omega) im1, ?_⟩ ?_ ?_ ?_ z1
      · exact a5.c (fun i hi => e47 i hi)
      · have w0 : WR S0 1 2 3 4 5 6 7 8 9 10 11 12 (fun i => jI S 48 (5600 * k + i)) := W0
        have w3 : WRw X 1 (fun i => jI S 48 (5600 * k + i)) := WR.fr fX (by decide) (by decide) (WR.fr fM (by decide) (by decide) (WR.fr f1 (by decide) (by decide) w0))
        exact WRw.c a5 w3 (fun i hi => e47 i hi)
      · refine BC.all (fun n a hn ha => ?_)
        rw [fX.I 27 (by decide), fX.I 28 (by decide), fM.I 27 (by decide), fM.I 28 (by decide)]
        exact f4 n a (by omega) (by omega) ha
      · have := hI.2.2.2.2.1
        unfold TP at this ⊢
        rw [old 14 (by omega) (by omega) (by omega) (by omega) (by omega) (by omega), old 15 (by omega) (by omega) (by omega) (by omega) (by omega) (by omega), old 50 (by omega) (by omega) (by omega) (by omega) (by omega) (by omega), x45 8 (by omega) (by omega)]; exact this
      · rw [x0' 10 (by omega) (by omega), x45 6 (by omega) (by omega)]; exact hI.2.2.2.2.2.2.1.1
      · rw [x0' 11 (by omega) (by omega), x45 13 (by omega) (by omega)]; exact hI.2.2.2.2.2.2.1.2
      · rw [xe.R (s0 (by omega)) (by omega)]; exact imd
      · intro g i h hg hk16 he
        have hgS : g < jN S := by rw [fX.N, fM.N, f1.N, n0] at hg; exact hg
        have hkS : jK S g = 16 := by rw [xe.K hgS] at hk16; exact hk16
        have fin : 69 ≤ h ∧ LawB S h → 69 ≤ h ∧ LawB X h := fun ⟨u1, u2⟩ => ⟨u1, u2.ex xe (by omega)⟩
        by_cases e : g = 10
        · subst e
          rw [xR] at he
          rcases Nat.lt_or_ge i 6 with l | l
          · have he' : jR S (w + 9) i = some h := by rw [← r0 i l]; exact he
            exact fin (hG.law hs a4 i h he')
          · have he' : jR S 10 i = some h := by rw [← r0' i l]; exact he
            exact fin (hG 10 i h hgS hkS he')
        · rw [xe.R hgS e] at he
          exact fin (hG g i h hgS hkS he)
      · rw [fX.I 0 (by decide)]; exact z13
      · rw [fX.I 0 (by decide)]; exact z12
    · rw [fX.N, fM.N, f1.N, n0]; omega
