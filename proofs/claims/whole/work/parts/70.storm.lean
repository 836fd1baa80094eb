/-! STORM, TERMS -/
theorem j_sst {j : Int64} {n m : Nat} (hn : n < 64) (hm : m < 64) : bj (j ||| ((1 : Int64) <<< ((nI n).toInt64 &&& 63))) m = if m = n then true else bj j m := by
  rw [j_or, j_shl n hn 1 hm, j_1]
  by_cases e : m = n
  · subst e; simp
  · rw [if_neg e]
    have : (decide (n ≤ m) && decide (m - n = 0)) = false := by
      rw [Bool.and_eq_false_iff, decide_eq_false_iff_not, decide_eq_false_iff_not]; omega
    rw [this, Bool.or_false]
theorem j_cst {j : Int64} {n m : Nat} (hn : n < 64) (hm : m < 64) : bj (j &&& (((1 : Int64) <<< ((nI n).toInt64 &&& 63)) ^^^ (-1))) m = if m = n then false else bj j m := by
  rw [j_and, j_xor, j_m1 m hm, j_shl n hn 1 hm, j_1]
  by_cases e : m = n
  · subst e; simp
  · rw [if_neg e]
    have : (decide (n ≤ m) && decide (m - n = 0)) = false := by
      rw [Bool.and_eq_false_iff, decide_eq_false_iff_not, decide_eq_false_iff_not]; omega
    rw [this]; simp
theorem sX9_setStorm {S : JS} {Q : JS → Prop} {n b : Nat} (hs : jSh S) (hn : n < 60) (hb : b < 2) (h : ∀ J', (∀ m, m < 64 → bj J' m = if m = n then decide (b = 1) else bj (jJ S 1 3) m) → Q (uJ S 1 3 J')) : wX9_setStorm 1 (nI n) (nI b) S Q := by
  unfold wX9_setStorm
  intro x1 e1
  rw [e1]
  simp only [shA_1, shR_1_4, shr_1_4, shR_1_5, shr_1_5, shR_1_6, shr_1_6, shR_1_9, shr_1_9, shR_1_11, shr_1_11, hs, ne_eq, not_false_eq_true, not_true_eq_false, reduceCtorEq, Nat.reduceEqDiff, forall_eq, true_and, and_true, true_implies, forall_const, implies_true, List.mem_cons, List.not_mem_nil, or_false, false_or, or_self, if_true, if_false, reduceIte, Nat.reduceAdd, Nat.reduceMul, Nat.reduceLT, false_implies, Decidable.not_not, bI_eq0, bI_eq1, upd_at, updL_at, Nat.succ_ne_zero, Int32.reduceToNatClampNeg, eq_self, i01, i10]
  rcases (by omega : b = 0 ∨ b = 1) with e | e
  · subst e
    exact ⟨fun _ => h _ (fun m hm => j_cst (by omega) hm), fun z => absurd rfl z⟩
  · subst e
    exact ⟨fun z => absurd z (by decide), fun _ => h _ (fun m hm => j_sst (by omega) hm)⟩
theorem pS_new {S X : JS} {n b : Nat} (q8 : pS S (jI S 47)) (hn : n < 60) (hb : b < 2) (er : ∀ k, k ≠ 8 + n → jI X 47 k = jI S 47 k) (er2 : jI X 47 (8 + n) = nI b) (hj : ∀ m, m < 64 → bj (jJ X 1 3) m = if m = n then decide (b = 1) else bj (jJ S 1 3) m) : pS X (jI X 47) := by
  refine ⟨fun m hm => ?_, fun m hm => ?_, fun m h1 h2 => ?_⟩
  · by_cases e : m = n
    · subst e; rw [er2]
      rcases (by omega : b = 0 ∨ b = 1) with e | e <;> subst e
      · exact Or.inl rfl
      · exact Or.inr rfl
    · rw [er _ (by omega)]; exact q8.1 m hm
  · rw [cSt_eq (by omega), hj m (by omega)]
    by_cases e : m = n
    · subst e; rw [er2, if_pos rfl]
      rcases (by omega : b = 0 ∨ b = 1) with e | e <;> subst e <;> rfl
    · rw [er _ (by omega), if_neg e, ← cSt_eq (by omega)]; exact q8.2.1 m hm
  · rw [hj m h2, if_neg (by omega)]; exact q8.2.2 m h1 h2
theorem BC_storm {S X : JS} {n : Nat} (hI : Inv S) (hn : n < 60) (er : ∀ k, k ≠ 8 + n → jI X 47 k = jI S 47 k) (h27 : ∀ p, jI X 27 p = -1 ∨ jI X 27 p = jI S 27 p) (h28 : ∀ p, jI X 28 p = -1 ∨ jI X 28 p = jI S 28 p) (h0 : ∀ r, r < 9 → jI X 27 (n * 9 + r) = -1 ∧ jI X 28 (n * 9 + r) = -1) : BC X := by
  obtain ⟨w, w1, w2, _⟩ := hI.2.1.1.2.2.2.2.1
  refine hI.2.2.1.chg (fun m a hm ha => ?_)
  by_cases e : m = n
  · subst e; exact ⟨Or.inl (h0 a ha).1, Or.inl (h0 a ha).2⟩
  · refine ⟨(h27 _).imp id (fun z => ⟨z, fun i => ?_⟩), (h28 _).imp id (fun z => ⟨z, ?_⟩)⟩
    · exact gSl_c hI.2.1.lf hm (er 0 (by omega)) (er 1 (by omega)) (er 4 (by omega)) (er _ (by omega)) (fun j _ _ k _ _ => er k (by omega)) (gWd_c (by rw [w2, nI_tn (by omega)]; exact w1) (er 5 (by omega)) (fun k _ _ => er k (by omega)) a m) i
    · exact gTell_c hI.2.1.lf hm (er 0 (by omega)) (er 1 (by omega)) (er 4 (by omega)) (er _ (by omega)) (fun j _ _ k _ _ => er k (by omega)) _ _ _
theorem q_storm {S : JS} {Q : Int32 → JS → Prop} {x y : Int32} (hI : Inv S) (hq : ∀ r S1, Mdl (wX12_storm 45 x y) S r S1 → Q r S1) : wX11_storm 0 x y S Q := by
  have hs := hI.1
  have no : ¬ ((0 ≤ x ∧ x ≤ 59) ∧ (0 ≤ y ∧ y ≤ 1)) → wX11_storm_6 0 S Q := by
    intro hx
    unfold wX11_storm_6
    refine ⟨shA_0 hs, sX11_ref 0 1 (Or.inl ⟨rfl, rfl, rfl⟩) hI hq (fun S1 Q' hA k => ?_)⟩
    unfold wX12_storm wX12_storm_19
    refine ⟨hA, fun M eM => ?_⟩
    obtain ⟨hsM, hmM, eMI, kM, ht⟩ := k M eM
    refine sX12_isNight (fun n hn en => ⟨fun q => absurd q (by decide), fun _ => ?_⟩) (fun _ => ⟨fun _ => ⟨shA_45 hsM, ht⟩, fun q => absurd rfl q⟩)
    subst en
    exact sX12_in' 0 1 rfl rfl (fun h3 h4 => absurd ⟨ex59 hn, h3, h4⟩ hx) (fun _ => ⟨fun _ => ⟨shA_45 hsM, ht⟩, fun q => absurd rfl q⟩)
  obtain ⟨q1, q2, q3, q4, q5, q6, q7, q8, q9⟩ := MW_iff.mp hI.2.1
  unfold wX11_storm
  refine sX11_isNight (fun n hn en => ⟨fun q => absurd q (by decide), fun _ => ?_⟩) (fun h => ⟨fun _ => no (fun w => h w.1), fun q => absurd rfl q⟩)
  refine sX11_isBit (fun b hb eb => ⟨fun _ => ?_, fun q => absurd q (by decide)⟩) (fun h => ⟨fun q => absurd rfl q, fun _ => no (fun w => h w.2)⟩)
  subst en eb
  have main : ∀ S1, jFr [1, 27, 28] S S1 → jFk 1 [3] S S1 → (∀ m, m < 64 → bj (jJ S1 1 3) m = if m = n then decide (b = 1) else bj (jJ S 1 3) m) → (∀ p, jI S1 27 p = -1 ∨ jI S1 27 p = jI S 27 p) → (∀ p, jI S1 28 p = -1 ∨ jI S1 28 p = jI S 28 p) → (∀ r, r < 9 → jI S1 27 (n * 9 + r) = -1 ∧ jI S1 28 (n * 9 + r) = -1) → wX11_accept 0 (jI S 47 (8 + n)) S1 Q := by
    intro S1 g1 k1 hj h27 h28 h0
    refine sX11_acc hI g1 hq (fun S2 Q' hA k hq' => ?_)
    unfold wX12_storm
    refine ⟨hA, fun M eM => ?_⟩
    have hM := k M eM
    have hsM := hM.1
    have eM47 : jI M 47 = jI S 47 := by rw [hM.2.1.I 47 (by decide), g1.I 47 (by decide)]
    refine sX12_isNight (fun _ _ _ => ⟨fun q => absurd q (by decide), fun _ => ?_⟩) (fun hx => absurd (ex59 hn) hx)
    refine sX12_in' 0 1 rfl rfl (fun _ _ => ⟨fun q => absurd q (by decide), fun _ => ⟨shA_45 hsM, ?_⟩⟩) (fun hx => absurd (ex1 hb) hx)
    rw [li_8, nI_add]
    refine sX12_change hsM (by omega) ?_
    rw [eM47]
    have f : jFr [0, 1, 27, 28, 45, 47] S (uI M 47 (8 + n) (nI b)) := (((g1.mono (by decide)).tr (hM.2.1.mono (by decide))).uI (by decide))
    have er : ∀ k, k ≠ 8 + n → jI (uI M 47 (8 + n) (nI b)) 47 k = jI S 47 k := fun k hk => by simp only [jN_uI, jN_uJ, jN_uR, jK_uI, jK_uJ, jK_uR, jZ_uI, jZ_uJ, jZ_uR, jR_uI, jR_uJ, jr_uI, jr_uJ, jI_uJ, jI_uR, jJ_uI, jJ_uR, jI_uI_eq, jI_uI_ne, jJ_uJ_eq, jJ_uJ_ne, jSh_uI, jSh_uJ, jA_uI, jA_uJ, jA_uR, jI_uIf_eq, jI_uIf_ne, jJ_uIf, jR_uIf, jr_uIf, jZ_uIf, jSh_uIf, jA_uIf, ne_eq, not_false_eq_true, not_true_eq_false, reduceCtorEq, Nat.reduceEqDiff, forall_eq, true_and, and_true, true_implies, forall_const, implies_true, List.mem_cons, List.not_mem_nil, or_false, false_or, or_self, if_true, if_false, reduceIte, Nat.reduceAdd, Nat.reduceMul, Nat.reduceLT, false_implies, Decidable.not_not, bI_eq0, bI_eq1, upd_at, updL_at, Nat.succ_ne_zero, Int32.reduceToNatClampNeg, eq_self, i01, i10, eM47]; rw [if_neg hk]
    have er2 : jI (uI M 47 (8 + n) (nI b)) 47 (8 + n) = nI b := by simp only [jN_uI, jN_uJ, jN_uR, jK_uI, jK_uJ, jK_uR, jZ_uI, jZ_uJ, jZ_uR, jR_uI, jR_uJ, jr_uI, jr_uJ, jI_uJ, jI_uR, jJ_uI, jJ_uR, jI_uI_eq, jI_uI_ne, jJ_uJ_eq, jJ_uJ_ne, jSh_uI, jSh_uJ, jA_uI, jA_uJ, jA_uR, jI_uIf_eq, jI_uIf_ne, jJ_uIf, jR_uIf, jr_uIf, jZ_uIf, jSh_uIf, jA_uIf, ne_eq, not_false_eq_true, not_true_eq_false, reduceCtorEq, Nat.reduceEqDiff, forall_eq, true_and, and_true, true_implies, forall_const, implies_true, List.mem_cons, List.not_mem_nil, or_false, false_or, or_self, if_true, if_false, reduceIte, Nat.reduceAdd, Nat.reduceMul, Nat.reduceLT, false_implies, Decidable.not_not, bI_eq0, bI_eq1, upd_at, updL_at, Nat.succ_ne_zero, Int32.reduceToNatClampNeg, eq_self, i01, i10]
    have k1' : jFk 1 [3] S (uI M 47 (8 + n) (nI b)) := (k1.tr (jFk.of hM.2.1 (by decide))).oI (by decide)
    have e27 : jI (uI M 47 (8 + n) (nI b)) 27 = jI S1 27 := by simp only [jN_uI, jN_uJ, jN_uR, jK_uI, jK_uJ, jK_uR, jZ_uI, jZ_uJ, jZ_uR, jR_uI, jR_uJ, jr_uI, jr_uJ, jI_uJ, jI_uR, jJ_uI, jJ_uR, jI_uI_eq, jI_uI_ne, jJ_uJ_eq, jJ_uJ_ne, jSh_uI, jSh_uJ, jA_uI, jA_uJ, jA_uR, jI_uIf_eq, jI_uIf_ne, jJ_uIf, jR_uIf, jr_uIf, jZ_uIf, jSh_uIf, jA_uIf, ne_eq, not_false_eq_true, not_true_eq_false, reduceCtorEq, Nat.reduceEqDiff, forall_eq, true_and, and_true, true_implies, forall_const, implies_true, List.mem_cons, List.not_mem_nil, or_false, false_or, or_self, if_true, if_false, reduceIte, Nat.reduceAdd, Nat.reduceMul, Nat.reduceLT, false_implies, Decidable.not_not, bI_eq0, bI_eq1, upd_at, updL_at, Nat.succ_ne_zero, Int32.reduceToNatClampNeg, eq_self, i01, i10]; exact hM.2.1.I 27 (by decide)
    have e28 : jI (uI M 47 (8 + n) (nI b)) 28 = jI S1 28 := by simp only [jN_uI, jN_uJ, jN_uR, jK_uI, jK_uJ, jK_uR, jZ_uI, jZ_uJ, jZ_uR, jR_uI, jR_uJ, jr_uI, jr_uJ, jI_uJ, jI_uR, jJ_uI, jJ_uR, jI_uI_eq, jI_uI_ne, jJ_uJ_eq, jJ_uJ_ne, jSh_uI, jSh_uJ, jA_uI, jA_uJ, jA_uR, jI_uIf_eq, jI_uIf_ne, jJ_uIf, jR_uIf, jr_uIf, jZ_uIf, jSh_uIf, jA_uIf, ne_eq, not_false_eq_true, not_true_eq_false, reduceCtorEq, Nat.reduceEqDiff, forall_eq, true_and, and_true, true_implies, forall_const, implies_true, List.mem_cons, List.not_mem_nil, or_false, false_or, or_self, if_true, if_false, reduceIte, Nat.reduceAdd, Nat.reduceMul, Nat.reduceLT, false_implies, Decidable.not_not, bI_eq0, bI_eq1, upd_at, updL_at, Nat.succ_ne_zero, Int32.reduceToNatClampNeg, eq_self, i01, i10]; exact hM.2.1.I 28 (by decide)
    have j3 : jJ (uI M 47 (8 + n) (nI b)) 1 3 = jJ S1 1 3 := by simp only [jN_uI, jN_uJ, jN_uR, jK_uI, jK_uJ, jK_uR, jZ_uI, jZ_uJ, jZ_uR, jR_uI, jR_uJ, jr_uI, jr_uJ, jI_uJ, jI_uR, jJ_uI, jJ_uR, jI_uI_eq, jI_uI_ne, jJ_uJ_eq, jJ_uJ_ne, jSh_uI, jSh_uJ, jA_uI, jA_uJ, jA_uR, jI_uIf_eq, jI_uIf_ne, jJ_uIf, jR_uIf, jr_uIf, jZ_uIf, jSh_uIf, jA_uIf, ne_eq, not_false_eq_true, not_true_eq_false, reduceCtorEq, Nat.reduceEqDiff, forall_eq, true_and, and_true, true_implies, forall_const, implies_true, List.mem_cons, List.not_mem_nil, or_false, false_or, or_self, if_true, if_false, reduceIte, Nat.reduceAdd, Nat.reduceMul, Nat.reduceLT, false_implies, Decidable.not_not, bI_eq0, bI_eq1, upd_at, updL_at, Nat.succ_ne_zero, Int32.reduceToNatClampNeg, eq_self, i01, i10]; rw [hM.2.1.J 1 (by decide)]
    have fX : jFr [45, 47, 58, 59] M (uI M 47 (8 + n) (nI b)) := (jFr.refl _ _).uI (by decide)
    have kX : jFk 45 [9, 10, 11, 12, 14, 15, 17, 20, 23, 24, 27, 30, 31, 32, 41] M (uI M 47 (8 + n) (nI b)) := (jFk.refl _ _ _).oI (by decide)
    generalize uI M 47 (8 + n) (nI b) = X at f er er2 k1' e27 e28 j3 fX kX ⊢
    have fin := hI.acc2 (g1.mono (by decide)) hM fX kX (MW_iff.mpr ⟨pR.c q1 (er 0 (by omega)) (k1'.I 0 (by decide)), pM.c q2 (er 1 (by omega)) (k1'.I 1 (by decide)), pU.c q3 (er 2 (by omega)) (k1'.I 2 (by decide)), pL.c q4 f (by decide) (fun k _ => er k (by omega)) (er 3 (by omega)) (er 4 (by omega)) (k1'.I 7 (by decide)) (k1'.I 8 (by decide)), pW.c q5 f (by decide) (er 0 (by omega)) (er 5 (by omega)) (fun k _ _ => er k (by omega)), pQ.c q6 f (by decide) (er 0 (by omega)) (er 6 (by omega)) (fun k _ _ => er k (by omega)), pT.c q7 (er 0 (by omega)) (er 7 (by omega)) (fun k _ _ => er k (by omega)) (k1'.I 10 (by decide)) (f.I 11 (by decide)), pS_new q8 hn hb er er2 (by rw [j3]; exact hj), pG.c q9 (fun k _ _ => er k (by omega)) (f.I 12 (by decide))⟩) (BC_storm hI hn er (by rw [e27]; exact h27) (by rw [e28]; exact h28) (by rw [e27, e28]; exact h0))
    exact hq' _ fin.1 fin.2
  have st : ∀ v, v = nI b → wX11_storm_24 0 (nI n) (jI S 47 (8 + n)) v (nI n) 1 S Q := by
    intro v hv
    subst hv
    unfold wX11_storm_24
    refine ⟨shA_1 hs, sX9_setStorm hs hn hb (fun J' hJ => ?_)⟩
    simp only [shA_0, shA_23, shR_0_0, shr_0_0, shR_0_1, shr_0_1, shR_0_2, shr_0_2, shR_0_3, shr_0_3, shR_0_4, shr_0_4, shR_0_5, shr_0_5, shR_0_6, shr_0_6, shR_0_7, shr_0_7, shR_0_8, shr_0_8, shR_0_9, shr_0_9, shR_23_0, shr_23_0, shR_23_1, shr_23_1, shR_23_2, shr_23_2, hs, jN_uI, jN_uJ, jN_uR, jK_uI, jK_uJ, jK_uR, jZ_uI, jZ_uJ, jZ_uR, jR_uI, jR_uJ, jr_uI, jr_uJ, jI_uJ, jI_uR, jJ_uI, jJ_uR, jI_uI_eq, jI_uI_ne, jJ_uJ_eq, jJ_uJ_ne, jSh_uI, jSh_uJ, jA_uI, jA_uJ, jA_uR, jI_uIf_eq, jI_uIf_ne, jJ_uIf, jR_uIf, jr_uIf, jZ_uIf, jSh_uIf, jA_uIf, ne_eq, not_false_eq_true, not_true_eq_false, reduceCtorEq, Nat.reduceEqDiff, forall_eq, true_and, and_true, true_implies, forall_const, implies_true, List.mem_cons, List.not_mem_nil, or_false, false_or, or_self, if_true, if_false, reduceIte, Nat.reduceAdd, Nat.reduceMul, Nat.reduceLT, false_implies, Decidable.not_not, bI_eq0, bI_eq1, upd_at, updL_at, Nat.succ_ne_zero, Int32.reduceToNatClampNeg, eq_self, i01, i10]
    refine sX1_forget (by simp only [jN_uI, jN_uJ, jN_uR, jK_uI, jK_uJ, jK_uR, jZ_uI, jZ_uJ, jZ_uR, jR_uI, jR_uJ, jr_uI, jr_uJ, jI_uJ, jI_uR, jJ_uI, jJ_uR, jI_uI_eq, jI_uI_ne, jJ_uJ_eq, jJ_uJ_ne, jSh_uI, jSh_uJ, jA_uI, jA_uJ, jA_uR, jI_uIf_eq, jI_uIf_ne, jJ_uIf, jR_uIf, jr_uIf, jZ_uIf, jSh_uIf, jA_uIf]; exact hs) hn hn (fun S1 ⟨f1, f2, f3, f4⟩ => ⟨shA_0 (f1.sh.mpr hs), main S1 ?_ ?_ ?_ ?_ ?_ ?_⟩)
    · exact ((jFr.refl _ _).uJ (by decide)).tr (f1.mono (by decide))
    · exact ((jFk.refl _ _ _).sJ (by decide)).tr (jFk.of f1 (by decide))
    · rw [f1.J 1 (by decide)]; simp only [jN_uI, jN_uJ, jN_uR, jK_uI, jK_uJ, jK_uR, jZ_uI, jZ_uJ, jZ_uR, jR_uI, jR_uJ, jr_uI, jr_uJ, jI_uJ, jI_uR, jJ_uI, jJ_uR, jI_uI_eq, jI_uI_ne, jJ_uJ_eq, jJ_uJ_ne, jSh_uI, jSh_uJ, jA_uI, jA_uJ, jA_uR, jI_uIf_eq, jI_uIf_ne, jJ_uIf, jR_uIf, jr_uIf, jZ_uIf, jSh_uIf, jA_uIf, ne_eq, not_false_eq_true, not_true_eq_false, reduceCtorEq, Nat.reduceEqDiff, forall_eq, true_and, and_true, true_implies, forall_const, implies_true, List.mem_cons, List.not_mem_nil, or_false, false_or, or_self, if_true, if_false, reduceIte, Nat.reduceAdd, Nat.reduceMul, Nat.reduceLT, false_implies, Decidable.not_not, bI_eq0, bI_eq1, upd_at, updL_at, Nat.succ_ne_zero, Int32.reduceToNatClampNeg, eq_self, i01, i10, updL_at]; exact hJ
    · intro p; have := f2 p; simp only [jN_uI, jN_uJ, jN_uR, jK_uI, jK_uJ, jK_uR, jZ_uI, jZ_uJ, jZ_uR, jR_uI, jR_uJ, jr_uI, jr_uJ, jI_uJ, jI_uR, jJ_uI, jJ_uR, jI_uI_eq, jI_uI_ne, jJ_uJ_eq, jJ_uJ_ne, jSh_uI, jSh_uJ, jA_uI, jA_uJ, jA_uR, jI_uIf_eq, jI_uIf_ne, jJ_uIf, jR_uIf, jr_uIf, jZ_uIf, jSh_uIf, jA_uIf, ne_eq, not_false_eq_true, not_true_eq_false, reduceCtorEq, Nat.reduceEqDiff, forall_eq, true_and, and_true, true_implies, forall_const, implies_true, List.mem_cons, List.not_mem_nil, or_false, false_or, or_self, if_true, if_false, reduceIte, Nat.reduceAdd, Nat.reduceMul, Nat.reduceLT, false_implies, Decidable.not_not, bI_eq0, bI_eq1, upd_at, updL_at, Nat.succ_ne_zero, Int32.reduceToNatClampNeg, eq_self, i01, i10] at this; exact this
    · intro p; have := f3 p; simp only [jN_uI, jN_uJ, jN_uR, jK_uI, jK_uJ, jK_uR, jZ_uI, jZ_uJ, jZ_uR, jR_uI, jR_uJ, jr_uI, jr_uJ, jI_uJ, jI_uR, jJ_uI, jJ_uR, jI_uI_eq, jI_uI_ne, jJ_uJ_eq, jJ_uJ_ne, jSh_uI, jSh_uJ, jA_uI, jA_uJ, jA_uR, jI_uIf_eq, jI_uIf_ne, jJ_uIf, jR_uIf, jr_uIf, jZ_uIf, jSh_uIf, jA_uIf, ne_eq, not_false_eq_true, not_true_eq_false, reduceCtorEq, Nat.reduceEqDiff, forall_eq, true_and, and_true, true_implies, forall_const, implies_true, List.mem_cons, List.not_mem_nil, or_false, false_or, or_self, if_true, if_false, reduceIte, Nat.reduceAdd, Nat.reduceMul, Nat.reduceLT, false_implies, Decidable.not_not, bI_eq0, bI_eq1, upd_at, updL_at, Nat.succ_ne_zero, Int32.reduceToNatClampNeg, eq_self, i01, i10] at this; exact this
    · intro r hr; exact f4 n r (by omega) (by omega) hr
  simp only [shA_0, shA_1, shR_0_0, shr_0_0, shR_0_1, shr_0_1, shR_0_2, shr_0_2, shR_0_3, shr_0_3, shR_0_4, shr_0_4, shR_0_5, shr_0_5, shR_0_6, shr_0_6, shR_0_7, shr_0_7, shR_0_8, shr_0_8, shR_0_9, shr_0_9, shR_1_4, shr_1_4, shR_1_5, shr_1_5, shR_1_6, shr_1_6, shR_1_9, shr_1_9, shR_1_11, shr_1_11, hs, ne_eq, not_false_eq_true, not_true_eq_false, reduceCtorEq, Nat.reduceEqDiff, forall_eq, true_and, and_true, true_implies, forall_const, implies_true, List.mem_cons, List.not_mem_nil, or_false, false_or, or_self, if_true, if_false, reduceIte, Nat.reduceAdd, Nat.reduceMul, Nat.reduceLT, false_implies, Decidable.not_not, bI_eq0, bI_eq1, upd_at, updL_at, Nat.succ_ne_zero, Int32.reduceToNatClampNeg, eq_self, i01, i10]
  unfold wX9_stormOn
  refine ⟨shA_1 hs, ?_⟩
  rw [show ((jJ S 1 3 >>> ((nI n).toInt64 &&& 63)) &&& 1).toInt32 = jI S 47 (8 + n) from q8.2.1 n hn]
  simp only [shA_0, shA_1, shR_0_0, shr_0_0, shR_0_1, shr_0_1, shR_0_2, shr_0_2, shR_0_3, shr_0_3, shR_0_4, shr_0_4, shR_0_5, shr_0_5, shR_0_6, shr_0_6, shR_0_7, shr_0_7, shR_0_8, shr_0_8, shR_0_9, shr_0_9, shR_1_4, shr_1_4, shR_1_5, shr_1_5, shR_1_6, shr_1_6, shR_1_9, shr_1_9, shR_1_11, shr_1_11, hs, ne_eq, not_false_eq_true, not_true_eq_false, reduceCtorEq, Nat.reduceEqDiff, forall_eq, true_and, and_true, true_implies, forall_const, implies_true, List.mem_cons, List.not_mem_nil, or_false, false_or, or_self, if_true, if_false, reduceIte, Nat.reduceAdd, Nat.reduceMul, Nat.reduceLT, false_implies, Decidable.not_not, bI_eq0, bI_eq1, upd_at, updL_at, Nat.succ_ne_zero, Int32.reduceToNatClampNeg, eq_self, i01, i10]
  refine ⟨fun z => st 0 ?_, fun z => st 1 z.symm⟩
  rcases (by omega : b = 0 ∨ b = 1) with e | e <;> subst e
  · rfl
  · exact absurd rfl z
