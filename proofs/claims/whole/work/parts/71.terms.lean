/-! TERMS -/
def canT (x y : Int32) : Prop := (x = 0 ∧ 1 ≤ y ∧ y ≤ 9) ∨ (x = 1 ∧ 0 ≤ y ∧ y ≤ 9) ∨ (x = 2 ∧ 1 ≤ y ∧ y ≤ 100)
theorem sX12_terms {M : JS} {Q : Int32 → JS → Prop} {x y : Int32} (h1 : canT x y → wX12_terms_32 45 x y 1 M Q) (h0 : ¬ canT x y → wX12_terms_32 45 x y 0 M Q) : ((¬ x = 0 → (¬ x = 1 → (¬ x = 2 → wX12_terms_31 45 x y M Q) ∧ (x = 2 → wX12_in (y.toInt64) 1 100 M (fun r30 S29 => (r30 = 0 → wX12_terms_31 45 x y S29 Q) ∧ (¬ r30 = 0 → wX12_terms_32 45 x y 1 S29 Q)))) ∧ (x = 1 → wX12_in (y.toInt64) 0 9 M (fun r32 S31 => wX12_terms_32 45 x y r32 S31 Q))) ∧ (x = 0 → wX12_in (y.toInt64) 1 9 M (fun r34 S33 => wX12_terms_32 45 x y r34 S33 Q))) := by
  refine ⟨fun n0 => ⟨fun n1 => ⟨fun n2 => ?_, fun e2 => ?_⟩, fun e1 => ?_⟩, fun e0 => ?_⟩
  · refine h0 ?_
    rintro (w | w | w)
    · exact n0 w.1
    · exact n1 w.1
    · exact n2 w.1
  · refine sX12_in' 1 100 rfl rfl (fun a b => ⟨fun q => absurd q (by decide), fun _ => h1 (Or.inr (Or.inr ⟨e2, a, b⟩))⟩) (fun w => ⟨fun _ => h0 ?_, fun q => absurd rfl q⟩)
    rintro (v | v | v)
    · exact n0 v.1
    · exact n1 v.1
    · exact w v.2
  · refine sX12_in' 0 9 rfl rfl (fun a b => h1 (Or.inr (Or.inl ⟨e1, a, b⟩))) (fun w => h0 ?_)
    rintro (v | v | v)
    · exact n0 v.1
    · exact w v.2
    · rw [e1] at v; exact absurd v.1 (by decide)
  · refine sX12_in' 1 9 rfl rfl (fun a b => h1 (Or.inl ⟨e0, a, b⟩)) (fun w => h0 ?_)
    rintro (v | v | v)
    · exact w v.2
    · rw [e0] at v; exact absurd v.1 (by decide)
    · rw [e0] at v; exact absurd v.1 (by decide)
theorem q_terms {S : JS} {Q : Int32 → JS → Prop} {x y : Int32} (hI : Inv S) (hq : ∀ r S1, Mdl (wX12_terms 45 x y) S r S1 → Q r S1) : wX11_terms 0 x y S Q := by
  have hs := hI.1
  obtain ⟨q1, q2, q3, q4, q5, q6, q7, q8, q9⟩ := MW_iff.mp hI.2.1
  have no : ¬ canT x y → wX11_terms_19 0 S Q := by
    intro hx
    unfold wX11_terms_19
    refine ⟨shA_0 hs, sX11_ref 0 1 (Or.inl ⟨rfl, rfl, rfl⟩) hI hq (fun S1 Q' hA k => ?_)⟩
    unfold wX12_terms
    refine ⟨hA, fun M eM => ?_⟩
    obtain ⟨hsM, hmM, eMI, kM, ht⟩ := k M eM
    refine sX12_terms (fun h => absurd h hx) (fun _ => ?_)
    unfold wX12_terms_32
    exact ⟨fun q => absurd rfl q, fun _ => ⟨shA_45 hsM, ht⟩⟩
  -- what the class does, told as a state S0 before it forgets
  have tail : ∀ S0 v, jFr [1, 2, 6, 11] S S0 → (∀ S1, jFr [27, 28] S0 S1 → jFr [1, 2, 6, 11, 27, 28] S S1 → (∀ n a, n < 60 → a < 9 → jI S1 27 (n * 9 + a) = -1 ∧ jI S1 28 (n * 9 + a) = -1) → wX11_accept 0 v S1 Q) → wX11_terms_46 0 v S0 Q := by
    intro S0 v f0 h
    have hs0 := f0.sh.mpr hs
    unfold wX11_terms_46
    simp only [shA_0, shA_23, shR_0_0, shr_0_0, shR_0_1, shr_0_1, shR_0_2, shr_0_2, shR_0_3, shr_0_3, shR_0_4, shr_0_4, shR_0_5, shr_0_5, shR_0_6, shr_0_6, shR_0_7, shr_0_7, shR_0_8, shr_0_8, shR_0_9, shr_0_9, shR_23_0, shr_23_0, shR_23_1, shr_23_1, shR_23_2, shr_23_2, hs0, ne_eq, not_false_eq_true, not_true_eq_false, reduceCtorEq, Nat.reduceEqDiff, forall_eq, true_and, and_true, true_implies, forall_const, implies_true, List.mem_cons, List.not_mem_nil, or_false, false_or, or_self, if_true, if_false, reduceIte, Nat.reduceAdd, Nat.reduceMul, Nat.reduceLT, false_implies, Decidable.not_not, bI_eq0, bI_eq1, upd_at, updL_at, Nat.succ_ne_zero, Int32.reduceToNatClampNeg, eq_self, i01, i10]
    exact sX1_forget (a := 0) (b := 59) hs0 (by omega) (by omega) (fun S1 ⟨f1, f2, f3, f4⟩ => ⟨shA_0 (f1.sh.mpr hs0), h S1 f1 ((f0.mono (by decide)).tr (f1.mono (by decide))) (fun n a hn ha => f4 n a (by omega) (by omega) ha)⟩)
  -- a term that is one number
  have one : ∀ j, (j = 1 ∨ j = 2) → x = nI j → canT x y → (∀ X, jI X 47 j = y → jI X 1 j = y → (j = 1 → pM X (jI X 47)) ∧ (j = 2 → pU X (jI X 47))) → wX11_terms_46 0 (jI S 1 j) (uI S 1 j y) Q := by
    intro j hj ex hc hp
    subst ex
    refine tail _ _ ((jFr.refl _ _).uI (by decide)) (fun S1 f1 g1 h0 => sX11_acc hI g1 hq (fun S2 Q' hA k hq' => ?_))
    unfold wX12_terms
    refine ⟨hA, fun M eM => ?_⟩
    have hM := k M eM
    have hsM := hM.1
    have gS : jFr [1] S (uI S 1 j y) := (jFr.refl _ _).uI (by decide)
    have eM47 : jI M 47 = jI S 47 := by rw [hM.2.1.I 47 (by decide), g1.I 47 (by decide)]
    refine sX12_terms (fun _ => ?_) (fun h => absurd hc h)
    unfold wX12_terms_32 wX12_terms_61
    refine ⟨fun _ => ⟨fun _ => ⟨shA_45 hsM, sX12_change hsM (by omega) ?_⟩, fun q => ?_⟩, fun q => absurd q (by decide)⟩
    · have old : jI S 1 j = jI S 47 j := by
        rcases hj with e | e <;> subst e
        · exact q2.2
        · exact q3.2
      rw [eM47, ← old]
      have f : jFr [0, 1, 27, 28, 45, 47] S (uI M 47 j y) := ((((gS.mono (by decide)).tr (f1.mono (by decide))).tr (hM.2.1.mono (by decide))).uI (by decide))
      have er : ∀ k, k ≠ j → jI (uI M 47 j y) 47 k = jI S 47 k := fun k hk => by simp only [jN_uI, jN_uJ, jN_uR, jK_uI, jK_uJ, jK_uR, jZ_uI, jZ_uJ, jZ_uR, jR_uI, jR_uJ, jr_uI, jr_uJ, jI_uJ, jI_uR, jJ_uI, jJ_uR, jI_uI_eq, jI_uI_ne, jJ_uJ_eq, jJ_uJ_ne, jSh_uI, jSh_uJ, jA_uI, jA_uJ, jA_uR, jI_uIf_eq, jI_uIf_ne, jJ_uIf, jR_uIf, jr_uIf, jZ_uIf, jSh_uIf, jA_uIf, ne_eq, not_false_eq_true, not_true_eq_false, reduceCtorEq, Nat.reduceEqDiff, forall_eq, true_and, and_true, true_implies, forall_const, implies_true, List.mem_cons, List.not_mem_nil, or_false, false_or, or_self, if_true, if_false, reduceIte, Nat.reduceAdd, Nat.reduceMul, Nat.reduceLT, false_implies, Decidable.not_not, bI_eq0, bI_eq1, upd_at, updL_at, Nat.succ_ne_zero, Int32.reduceToNatClampNeg, eq_self, i01, i10, eM47]; rw [if_neg hk]
      have er2 : jI (uI M 47 j y) 47 j = y := by simp only [jN_uI, jN_uJ, jN_uR, jK_uI, jK_uJ, jK_uR, jZ_uI, jZ_uJ, jZ_uR, jR_uI, jR_uJ, jr_uI, jr_uJ, jI_uJ, jI_uR, jJ_uI, jJ_uR, jI_uI_eq, jI_uI_ne, jJ_uJ_eq, jJ_uJ_ne, jSh_uI, jSh_uJ, jA_uI, jA_uJ, jA_uR, jI_uIf_eq, jI_uIf_ne, jJ_uIf, jR_uIf, jr_uIf, jZ_uIf, jSh_uIf, jA_uIf, ne_eq, not_false_eq_true, not_true_eq_false, reduceCtorEq, Nat.reduceEqDiff, forall_eq, true_and, and_true, true_implies, forall_const, implies_true, List.mem_cons, List.not_mem_nil, or_false, false_or, or_self, if_true, if_false, reduceIte, Nat.reduceAdd, Nat.reduceMul, Nat.reduceLT, false_implies, Decidable.not_not, bI_eq0, bI_eq1, upd_at, updL_at, Nat.succ_ne_zero, Int32.reduceToNatClampNeg, eq_self, i01, i10]
      have k1 : jFk 1 [1, 2] S (uI M 47 j y) := ((((jFk.refl _ _ _).sI (by rcases hj with e | e <;> subst e <;> decide)).tr (jFk.of f1 (by decide))).tr (jFk.of hM.2.1 (by decide))).oI (by decide)
      have c1 : ∀ i, jI (uI M 47 j y) 1 i = if i = j then y else jI S 1 i := fun i => by simp only [jN_uI, jN_uJ, jN_uR, jK_uI, jK_uJ, jK_uR, jZ_uI, jZ_uJ, jZ_uR, jR_uI, jR_uJ, jr_uI, jr_uJ, jI_uJ, jI_uR, jJ_uI, jJ_uR, jI_uI_eq, jI_uI_ne, jJ_uJ_eq, jJ_uJ_ne, jSh_uI, jSh_uJ, jA_uI, jA_uJ, jA_uR, jI_uIf_eq, jI_uIf_ne, jJ_uIf, jR_uIf, jr_uIf, jZ_uIf, jSh_uIf, jA_uIf, ne_eq, not_false_eq_true, not_true_eq_false, reduceCtorEq, Nat.reduceEqDiff, forall_eq, true_and, and_true, true_implies, forall_const, implies_true, List.mem_cons, List.not_mem_nil, or_false, false_or, or_self, if_true, if_false, reduceIte, Nat.reduceAdd, Nat.reduceMul, Nat.reduceLT, false_implies, Decidable.not_not, bI_eq0, bI_eq1, upd_at, updL_at, Nat.succ_ne_zero, Int32.reduceToNatClampNeg, eq_self, i01, i10]; rw [hM.2.1.I 1 (by decide), f1.I 1 (by decide)]; simp only [jN_uI, jN_uJ, jN_uR, jK_uI, jK_uJ, jK_uR, jZ_uI, jZ_uJ, jZ_uR, jR_uI, jR_uJ, jr_uI, jr_uJ, jI_uJ, jI_uR, jJ_uI, jJ_uR, jI_uI_eq, jI_uI_ne, jJ_uJ_eq, jJ_uJ_ne, jSh_uI, jSh_uJ, jA_uI, jA_uJ, jA_uR, jI_uIf_eq, jI_uIf_ne, jJ_uIf, jR_uIf, jr_uIf, jZ_uIf, jSh_uIf, jA_uIf, ne_eq, not_false_eq_true, not_true_eq_false, reduceCtorEq, Nat.reduceEqDiff, forall_eq, true_and, and_true, true_implies, forall_const, implies_true, List.mem_cons, List.not_mem_nil, or_false, false_or, or_self, if_true, if_false, reduceIte, Nat.reduceAdd, Nat.reduceMul, Nat.reduceLT, false_implies, Decidable.not_not, bI_eq0, bI_eq1, upd_at, updL_at, Nat.succ_ne_zero, Int32.reduceToNatClampNeg, eq_self, i01, i10]
      have fX : jFr [45, 47, 58, 59] M (uI M 47 j y) := (jFr.refl _ _).uI (by decide)
      have kX : jFk 45 [9, 10, 11, 12, 14, 15, 17, 20, 23, 24, 27, 30, 31, 32, 41] M (uI M 47 j y) := (jFk.refl _ _ _).oI (by decide)
      have hB : BC (uI M 47 j y) := BC.all (fun n a hn ha => by
        simp only [jN_uI, jN_uJ, jN_uR, jK_uI, jK_uJ, jK_uR, jZ_uI, jZ_uJ, jZ_uR, jR_uI, jR_uJ, jr_uI, jr_uJ, jI_uJ, jI_uR, jJ_uI, jJ_uR, jI_uI_eq, jI_uI_ne, jJ_uJ_eq, jJ_uJ_ne, jSh_uI, jSh_uJ, jA_uI, jA_uJ, jA_uR, jI_uIf_eq, jI_uIf_ne, jJ_uIf, jR_uIf, jr_uIf, jZ_uIf, jSh_uIf, jA_uIf, ne_eq, not_false_eq_true, not_true_eq_false, reduceCtorEq, Nat.reduceEqDiff, forall_eq, true_and, and_true, true_implies, forall_const, implies_true, List.mem_cons, List.not_mem_nil, or_false, false_or, or_self, if_true, if_false, reduceIte, Nat.reduceAdd, Nat.reduceMul, Nat.reduceLT, false_implies, Decidable.not_not, bI_eq0, bI_eq1, upd_at, updL_at, Nat.succ_ne_zero, Int32.reduceToNatClampNeg, eq_self, i01, i10]
        rw [hM.2.1.I 27 (by decide), hM.2.1.I 28 (by decide)]
        exact h0 n a hn ha)
      generalize uI M 47 j y = X at f er er2 k1 c1 fX kX hB ⊢
      have hp := hp X er2 (by rw [c1, if_pos rfl])
      have gM : pM X (jI X 47) := by
        rcases hj with e | e
        · exact hp.1 e
        · exact pM.c q2 (er 1 (by omega)) (by rw [c1, if_neg (by omega)])
      have gU : pU X (jI X 47) := by
        rcases hj with e | e
        · exact pU.c q3 (er 2 (by omega)) (by rw [c1, if_neg (by omega)])
        · exact hp.2 e
      have fin := hI.acc2 (g1.mono (by decide)) hM fX kX (MW_iff.mpr ⟨pR.c q1 (er 0 (by omega)) (k1.I 0 (by decide)), gM, gU, pL.c q4 f (by decide) (fun k _ => er k (by omega)) (er 3 (by omega)) (er 4 (by omega)) (k1.I 7 (by decide)) (k1.I 8 (by decide)), pW.c q5 f (by decide) (er 0 (by omega)) (er 5 (by omega)) (fun k _ _ => er k (by omega)), pQ.c q6 f (by decide) (er 0 (by omega)) (er 6 (by omega)) (fun k _ _ => er k (by omega)), pT.c q7 (er 0 (by omega)) (er 7 (by omega)) (fun k _ _ => er k (by omega)) (k1.I 10 (by decide)) (f.I 11 (by decide)), pS.c q8 (fun k _ _ => er k (by omega)) (k1.J 3 (by decide)), pG.c q9 (fun k _ _ => er k (by omega)) (f.I 12 (by decide))⟩) hB
      exact hq' _ fin.1 fin.2
    · rw [nI_eq0 (by omega)] at q; omega
  have six : ∀ lo, (x = 1 ∧ lo = 0) ∨ (¬ x = 1 ∧ lo = 1) → wX11_terms_6 0 x y lo S Q := by
    intro lo hlo
    unfold wX11_terms_6
    refine ⟨fun z => no ?_, fun z1 => ⟨fun z => no ?_, fun z2 => ⟨fun z => no ?_, fun z3 => ?_⟩⟩⟩
    · rintro (w | w | w) <;> rw [w.1] at z <;> exact absurd z (by decide)
    · rintro (w | w | w) <;> rw [w.1] at z <;> exact absurd z (by decide)
    · rintro (w | w | w)
      · rcases hlo with ⟨e, _⟩ | ⟨_, e⟩
        · rw [w.1] at e; exact absurd e (by decide)
        · rw [e] at z; have := w.2.1; lia
      · rcases hlo with ⟨_, e⟩ | ⟨e, _⟩
        · rw [e] at z; have := w.2.1; lia
        · exact e w.1
      · rcases hlo with ⟨e, _⟩ | ⟨_, e⟩
        · rw [w.1] at e; exact absurd e (by decide)
        · rw [e] at z; have := w.2.1; lia
    · obtain ⟨j, j1, rfl⟩ := nI_of2 (M := 2) (n := 2) rfl z1 (by lia)
      unfold wX11_mostOfTerm wX11_termNow
      rcases (by omega : j = 0 ∨ j = 1 ∨ j = 2) with e | e | e <;> subst e
      · have e1 : lo = 1 := by
          rcases hlo with ⟨e, _⟩ | ⟨_, e⟩
          · exact absurd e (by decide)
          · exact e
        subst e1
        refine ⟨fun q => absurd rfl q, fun _ => ⟨fun z4 => ⟨shA_0 hs, fun q => absurd rfl q, fun _ => ?_⟩, fun z4 => no ?_⟩⟩
        · obtain ⟨m, m1, rfl⟩ := nI_of2 (M := 9) (n := 9) rfl (x := y) (by lia) z4
          have m0 : 1 ≤ m := by
            rcases Nat.eq_zero_or_pos m with e | e
            · subst e; exact absurd (by decide) z3
            · exact e
          have hc : canT (nI 0) (nI m) := Or.inl ⟨rfl, by lia, z4⟩
          simp only [shA_0, shA_1, shR_0_0, shr_0_0, shR_0_1, shr_0_1, shR_0_2, shr_0_2, shR_0_3, shr_0_3, shR_0_4, shr_0_4, shR_0_5, shr_0_5, shR_0_6, shr_0_6, shR_0_7, shr_0_7, shR_0_8, shr_0_8, shR_0_9, shr_0_9, shR_1_4, shr_1_4, shR_1_5, shr_1_5, shR_1_6, shr_1_6, shR_1_9, shr_1_9, shR_1_11, shr_1_11, hs, ne_eq, not_false_eq_true, not_true_eq_false, reduceCtorEq, Nat.reduceEqDiff, forall_eq, true_and, and_true, true_implies, forall_const, implies_true, List.mem_cons, List.not_mem_nil, or_false, false_or, or_self, if_true, if_false, reduceIte, Nat.reduceAdd, Nat.reduceMul, Nat.reduceLT, false_implies, Decidable.not_not, bI_eq0, bI_eq1, upd_at, updL_at, Nat.succ_ne_zero, Int32.reduceToNatClampNeg, eq_self, i01, i10]
          refine ⟨fun q => absurd rfl q, fun _ => ?_⟩
          unfold wX9_beginAnew
          simp only [shA_1, shA_2, shA_6, shA_11, shZ_11, shR_1_4, shr_1_4, shR_1_5, shr_1_5, shR_1_6, shr_1_6, shR_1_9, shr_1_9, shR_1_11, shr_1_11, shR_2_0, shr_2_0, shR_2_1, shr_2_1, shR_2_2, shr_2_2, shR_6_0, shr_6_0, shR_6_1, shr_6_1, shR_6_2, shr_6_2, hs, vpin_2, vpin_3, vpin_4, vpin_5, vpin_6, vpin_7, vpin_9, vpin_12, vpin_13, vpin_16, vpin_32, vpin_60, vpin_96, vpin_400, vpin_401, vpin_540, vpin_4320, vpin_4608, vpin_5600, vpin_11200, vpin_276480, jN_uI, jN_uJ, jN_uR, jK_uI, jK_uJ, jK_uR, jZ_uI, jZ_uJ, jZ_uR, jR_uI, jR_uJ, jr_uI, jr_uJ, jI_uJ, jI_uR, jJ_uI, jJ_uR, jI_uI_eq, jI_uI_ne, jJ_uJ_eq, jJ_uJ_ne, jSh_uI, jSh_uJ, jA_uI, jA_uJ, jA_uR, jI_uIf_eq, jI_uIf_ne, jJ_uIf, jR_uIf, jr_uIf, jZ_uIf, jSh_uIf, jA_uIf, ne_eq, not_false_eq_true, not_true_eq_false, reduceCtorEq, Nat.reduceEqDiff, forall_eq, true_and, and_true, true_implies, forall_const, implies_true, List.mem_cons, List.not_mem_nil, or_false, false_or, or_self, if_true, if_false, reduceIte, Nat.reduceAdd, Nat.reduceMul, Nat.reduceLT, false_implies, Decidable.not_not, bI_eq0, bI_eq1, upd_at, updL_at, Nat.succ_ne_zero, Int32.reduceToNatClampNeg, eq_self, i01, i10]
          refine ⟨by decide, ?_⟩
          have f0 : jFr [1, 2, 6, 11] S (uI (uI (uI (uI (uI S 1 0 (nI m)) 2 3 0) 6 3 0) 1 10 0) 11 0 0) := ((((((jFr.refl _ _).uI (by decide)).uI (by decide)).uI (by decide)).uI (by decide)).uI (by decide))
          have k0 : jFk 1 [0, 10] S (uI (uI (uI (uI (uI S 1 0 (nI m)) 2 3 0) 6 3 0) 1 10 0) 11 0 0) := ((((((jFk.refl _ _ _).sI (by decide)).oI (by decide)).oI (by decide)).sI (by decide)).oI (by decide))
          have i0 : jI (uI (uI (uI (uI (uI S 1 0 (nI m)) 2 3 0) 6 3 0) 1 10 0) 11 0 0) 1 0 = nI m := by simp only [jN_uI, jN_uJ, jN_uR, jK_uI, jK_uJ, jK_uR, jZ_uI, jZ_uJ, jZ_uR, jR_uI, jR_uJ, jr_uI, jr_uJ, jI_uJ, jI_uR, jJ_uI, jJ_uR, jI_uI_eq, jI_uI_ne, jJ_uJ_eq, jJ_uJ_ne, jSh_uI, jSh_uJ, jA_uI, jA_uJ, jA_uR, jI_uIf_eq, jI_uIf_ne, jJ_uIf, jR_uIf, jr_uIf, jZ_uIf, jSh_uIf, jA_uIf, ne_eq, not_false_eq_true, not_true_eq_false, reduceCtorEq, Nat.reduceEqDiff, forall_eq, true_and, and_true, true_implies, forall_const, implies_true, List.mem_cons, List.not_mem_nil, or_false, false_or, or_self, if_true, if_false, reduceIte, Nat.reduceAdd, Nat.reduceMul, Nat.reduceLT, false_implies, Decidable.not_not, bI_eq0, bI_eq1, upd_at, updL_at, Nat.succ_ne_zero, Int32.reduceToNatClampNeg, eq_self, i01, i10]
          have i1 : jI (uI (uI (uI (uI (uI S 1 0 (nI m)) 2 3 0) 6 3 0) 1 10 0) 11 0 0) 2 3 = 0 := by simp only [jN_uI, jN_uJ, jN_uR, jK_uI, jK_uJ, jK_uR, jZ_uI, jZ_uJ, jZ_uR, jR_uI, jR_uJ, jr_uI, jr_uJ, jI_uJ, jI_uR, jJ_uI, jJ_uR, jI_uI_eq, jI_uI_ne, jJ_uJ_eq, jJ_uJ_ne, jSh_uI, jSh_uJ, jA_uI, jA_uJ, jA_uR, jI_uIf_eq, jI_uIf_ne, jJ_uIf, jR_uIf, jr_uIf, jZ_uIf, jSh_uIf, jA_uIf, ne_eq, not_false_eq_true, not_true_eq_false, reduceCtorEq, Nat.reduceEqDiff, forall_eq, true_and, and_true, true_implies, forall_const, implies_true, List.mem_cons, List.not_mem_nil, or_false, false_or, or_self, if_true, if_false, reduceIte, Nat.reduceAdd, Nat.reduceMul, Nat.reduceLT, false_implies, Decidable.not_not, bI_eq0, bI_eq1, upd_at, updL_at, Nat.succ_ne_zero, Int32.reduceToNatClampNeg, eq_self, i01, i10]
          have i2 : jI (uI (uI (uI (uI (uI S 1 0 (nI m)) 2 3 0) 6 3 0) 1 10 0) 11 0 0) 6 3 = 0 := by simp only [jN_uI, jN_uJ, jN_uR, jK_uI, jK_uJ, jK_uR, jZ_uI, jZ_uJ, jZ_uR, jR_uI, jR_uJ, jr_uI, jr_uJ, jI_uJ, jI_uR, jJ_uI, jJ_uR, jI_uI_eq, jI_uI_ne, jJ_uJ_eq, jJ_uJ_ne, jSh_uI, jSh_uJ, jA_uI, jA_uJ, jA_uR, jI_uIf_eq, jI_uIf_ne, jJ_uIf, jR_uIf, jr_uIf, jZ_uIf, jSh_uIf, jA_uIf, ne_eq, not_false_eq_true, not_true_eq_false, reduceCtorEq, Nat.reduceEqDiff, forall_eq, true_and, and_true, true_implies, forall_const, implies_true, List.mem_cons, List.not_mem_nil, or_false, false_or, or_self, if_true, if_false, reduceIte, Nat.reduceAdd, Nat.reduceMul, Nat.reduceLT, false_implies, Decidable.not_not, bI_eq0, bI_eq1, upd_at, updL_at, Nat.succ_ne_zero, Int32.reduceToNatClampNeg, eq_self, i01, i10]
          have i3 : jI (uI (uI (uI (uI (uI S 1 0 (nI m)) 2 3 0) 6 3 0) 1 10 0) 11 0 0) 1 10 = 0 := by simp only [jN_uI, jN_uJ, jN_uR, jK_uI, jK_uJ, jK_uR, jZ_uI, jZ_uJ, jZ_uR, jR_uI, jR_uJ, jr_uI, jr_uJ, jI_uJ, jI_uR, jJ_uI, jJ_uR, jI_uI_eq, jI_uI_ne, jJ_uJ_eq, jJ_uJ_ne, jSh_uI, jSh_uJ, jA_uI, jA_uJ, jA_uR, jI_uIf_eq, jI_uIf_ne, jJ_uIf, jR_uIf, jr_uIf, jZ_uIf, jSh_uIf, jA_uIf, ne_eq, not_false_eq_true, not_true_eq_false, reduceCtorEq, Nat.reduceEqDiff, forall_eq, true_and, and_true, true_implies, forall_const, implies_true, List.mem_cons, List.not_mem_nil, or_false, false_or, or_self, if_true, if_false, reduceIte, Nat.reduceAdd, Nat.reduceMul, Nat.reduceLT, false_implies, Decidable.not_not, bI_eq0, bI_eq1, upd_at, updL_at, Nat.succ_ne_zero, Int32.reduceToNatClampNeg, eq_self, i01, i10]
          have i4 : jI (uI (uI (uI (uI (uI S 1 0 (nI m)) 2 3 0) 6 3 0) 1 10 0) 11 0 0) 11 = upd (jI S 11) 0 0 := by simp only [jN_uI, jN_uJ, jN_uR, jK_uI, jK_uJ, jK_uR, jZ_uI, jZ_uJ, jZ_uR, jR_uI, jR_uJ, jr_uI, jr_uJ, jI_uJ, jI_uR, jJ_uI, jJ_uR, jI_uI_eq, jI_uI_ne, jJ_uJ_eq, jJ_uJ_ne, jSh_uI, jSh_uJ, jA_uI, jA_uJ, jA_uR, jI_uIf_eq, jI_uIf_ne, jJ_uIf, jR_uIf, jr_uIf, jZ_uIf, jSh_uIf, jA_uIf, ne_eq, not_false_eq_true, not_true_eq_false, reduceCtorEq, Nat.reduceEqDiff, forall_eq, true_and, and_true, true_implies, forall_const, implies_true, List.mem_cons, List.not_mem_nil, or_false, false_or, or_self, if_true, if_false, reduceIte, Nat.reduceAdd, Nat.reduceMul, Nat.reduceLT, false_implies, Decidable.not_not, bI_eq0, bI_eq1, upd_at, updL_at, Nat.succ_ne_zero, Int32.reduceToNatClampNeg, eq_self, i01, i10]
          generalize uI (uI (uI (uI (uI S 1 0 (nI m)) 2 3 0) 6 3 0) 1 10 0) 11 0 0 = S0 at f0 k0 i0 i1 i2 i3 i4 ⊢
          refine tail _ _ f0 (fun S1 f1 g1 h0 => sX11_acc hI g1 hq (fun S2 Q' hA k hq' => ?_))
          unfold wX12_terms
          refine ⟨hA, fun M eM => ?_⟩
          have hM := k M eM
          have hsM := hM.1
          have eM47 : jI M 47 = jI S 47 := by rw [hM.2.1.I 47 (by decide), g1.I 47 (by decide)]
          refine sX12_terms (fun _ => ?_) (fun h => absurd hc h)
          unfold wX12_terms_32 wX12_terms_61
          simp only [shA_45, shA_47, shZ_47, shR_45_2, shr_45_2, shR_45_3, shr_45_3, shR_45_4, shr_45_4, shR_45_5, shr_45_5, shR_45_7, shr_45_7, shR_45_16, shr_45_16, shR_45_18, shr_45_18, shR_45_19, shr_45_19, shR_45_21, shr_45_21, shR_45_22, shr_45_22, shR_45_25, shr_45_25, shR_45_26, shr_45_26, shR_45_28, shr_45_28, shR_45_29, shr_45_29, shR_45_33, shr_45_33, shR_45_34, shr_45_34, shR_45_35, shr_45_35, shR_45_36, shr_45_36, shR_45_37, shr_45_37, shR_45_38, shr_45_38, shR_45_39, shr_45_39, shR_45_40, shr_45_40, shR_45_42, shr_45_42, hsM, vpin_2, vpin_3, vpin_4, vpin_5, vpin_6, vpin_7, vpin_9, vpin_12, vpin_13, vpin_16, vpin_32, vpin_60, vpin_96, vpin_400, vpin_401, vpin_540, vpin_4320, vpin_4608, vpin_5600, vpin_11200, vpin_276480, jN_uI, jN_uJ, jN_uR, jK_uI, jK_uJ, jK_uR, jZ_uI, jZ_uJ, jZ_uR, jR_uI, jR_uJ, jr_uI, jr_uJ, jI_uJ, jI_uR, jJ_uI, jJ_uR, jI_uI_eq, jI_uI_ne, jJ_uJ_eq, jJ_uJ_ne, jSh_uI, jSh_uJ, jA_uI, jA_uJ, jA_uR, jI_uIf_eq, jI_uIf_ne, jJ_uIf, jR_uIf, jr_uIf, jZ_uIf, jSh_uIf, jA_uIf, ne_eq, not_false_eq_true, not_true_eq_false, reduceCtorEq, Nat.reduceEqDiff, forall_eq, true_and, and_true, true_implies, forall_const, implies_true, List.mem_cons, List.not_mem_nil, or_false, false_or, or_self, if_true, if_false, reduceIte, Nat.reduceAdd, Nat.reduceMul, Nat.reduceLT, false_implies, Decidable.not_not, bI_eq0, bI_eq1, upd_at, updL_at, Nat.succ_ne_zero, Int32.reduceToNatClampNeg, eq_self, i01, i10]
          refine ⟨fun q => absurd rfl q, fun _ => ⟨by decide, by decide, by decide, by decide, ?_⟩⟩
          refine sX12_change (k := 0) ?_ (by omega) ?_
          · exact hsM
          simp only [jN_uI, jN_uJ, jN_uR, jK_uI, jK_uJ, jK_uR, jZ_uI, jZ_uJ, jZ_uR, jR_uI, jR_uJ, jr_uI, jr_uJ, jI_uJ, jI_uR, jJ_uI, jJ_uR, jI_uI_eq, jI_uI_ne, jJ_uJ_eq, jJ_uJ_ne, jSh_uI, jSh_uJ, jA_uI, jA_uJ, jA_uR, jI_uIf_eq, jI_uIf_ne, jJ_uIf, jR_uIf, jr_uIf, jZ_uIf, jSh_uIf, jA_uIf, ne_eq, not_false_eq_true, not_true_eq_false, reduceCtorEq, Nat.reduceEqDiff, forall_eq, true_and, and_true, true_implies, forall_const, implies_true, List.mem_cons, List.not_mem_nil, or_false, false_or, or_self, if_true, if_false, reduceIte, Nat.reduceAdd, Nat.reduceMul, Nat.reduceLT, false_implies, Decidable.not_not, bI_eq0, bI_eq1, upd_at, updL_at, Nat.succ_ne_zero, Int32.reduceToNatClampNeg, eq_self, i01, i10, eM47]
          rw [← q1.2]
          have f : jFr [0, 1, 2, 6, 11, 27, 28, 45, 47] S (uI (uI (uI (uI (uI M 47 5 0) 47 6 0) 47 7 0) 47 80 0) 47 0 (nI m)) := (((((((g1.mono (by decide)).tr (hM.2.1.mono (by decide))).uI (by decide)).uI (by decide)).uI (by decide)).uI (by decide)).uI (by decide))
          have er : ∀ k, k ≠ 0 → k ≠ 5 → k ≠ 6 → k ≠ 7 → k ≠ 80 → jI (uI (uI (uI (uI (uI M 47 5 0) 47 6 0) 47 7 0) 47 80 0) 47 0 (nI m)) 47 k = jI S 47 k := fun k a1 a2 a3 a4 a5 => by simp only [jN_uI, jN_uJ, jN_uR, jK_uI, jK_uJ, jK_uR, jZ_uI, jZ_uJ, jZ_uR, jR_uI, jR_uJ, jr_uI, jr_uJ, jI_uJ, jI_uR, jJ_uI, jJ_uR, jI_uI_eq, jI_uI_ne, jJ_uJ_eq, jJ_uJ_ne, jSh_uI, jSh_uJ, jA_uI, jA_uJ, jA_uR, jI_uIf_eq, jI_uIf_ne, jJ_uIf, jR_uIf, jr_uIf, jZ_uIf, jSh_uIf, jA_uIf, ne_eq, not_false_eq_true, not_true_eq_false, reduceCtorEq, Nat.reduceEqDiff, forall_eq, true_and, and_true, true_implies, forall_const, implies_true, List.mem_cons, List.not_mem_nil, or_false, false_or, or_self, if_true, if_false, reduceIte, Nat.reduceAdd, Nat.reduceMul, Nat.reduceLT, false_implies, Decidable.not_not, bI_eq0, bI_eq1, upd_at, updL_at, Nat.succ_ne_zero, Int32.reduceToNatClampNeg, eq_self, i01, i10, eM47, upd_at]; rw [if_neg a1, if_neg a5, if_neg a4, if_neg a3, if_neg a2]
          have r0 : jI (uI (uI (uI (uI (uI M 47 5 0) 47 6 0) 47 7 0) 47 80 0) 47 0 (nI m)) 47 0 = nI m := by simp only [jN_uI, jN_uJ, jN_uR, jK_uI, jK_uJ, jK_uR, jZ_uI, jZ_uJ, jZ_uR, jR_uI, jR_uJ, jr_uI, jr_uJ, jI_uJ, jI_uR, jJ_uI, jJ_uR, jI_uI_eq, jI_uI_ne, jJ_uJ_eq, jJ_uJ_ne, jSh_uI, jSh_uJ, jA_uI, jA_uJ, jA_uR, jI_uIf_eq, jI_uIf_ne, jJ_uIf, jR_uIf, jr_uIf, jZ_uIf, jSh_uIf, jA_uIf, ne_eq, not_false_eq_true, not_true_eq_false, reduceCtorEq, Nat.reduceEqDiff, forall_eq, true_and, and_true, true_implies, forall_const, implies_true, List.mem_cons, List.not_mem_nil, or_false, false_or, or_self, if_true, if_false, reduceIte, Nat.reduceAdd, Nat.reduceMul, Nat.reduceLT, false_implies, Decidable.not_not, bI_eq0, bI_eq1, upd_at, updL_at, Nat.succ_ne_zero, Int32.reduceToNatClampNeg, eq_self, i01, i10]
          have r5 : jI (uI (uI (uI (uI (uI M 47 5 0) 47 6 0) 47 7 0) 47 80 0) 47 0 (nI m)) 47 5 = 0 := by simp only [jN_uI, jN_uJ, jN_uR, jK_uI, jK_uJ, jK_uR, jZ_uI, jZ_uJ, jZ_uR, jR_uI, jR_uJ, jr_uI, jr_uJ, jI_uJ, jI_uR, jJ_uI, jJ_uR, jI_uI_eq, jI_uI_ne, jJ_uJ_eq, jJ_uJ_ne, jSh_uI, jSh_uJ, jA_uI, jA_uJ, jA_uR, jI_uIf_eq, jI_uIf_ne, jJ_uIf, jR_uIf, jr_uIf, jZ_uIf, jSh_uIf, jA_uIf, ne_eq, not_false_eq_true, not_true_eq_false, reduceCtorEq, Nat.reduceEqDiff, forall_eq, true_and, and_true, true_implies, forall_const, implies_true, List.mem_cons, List.not_mem_nil, or_false, false_or, or_self, if_true, if_false, reduceIte, Nat.reduceAdd, Nat.reduceMul, Nat.reduceLT, false_implies, Decidable.not_not, bI_eq0, bI_eq1, upd_at, updL_at, Nat.succ_ne_zero, Int32.reduceToNatClampNeg, eq_self, i01, i10]
          have r6 : jI (uI (uI (uI (uI (uI M 47 5 0) 47 6 0) 47 7 0) 47 80 0) 47 0 (nI m)) 47 6 = 0 := by simp only [jN_uI, jN_uJ, jN_uR, jK_uI, jK_uJ, jK_uR, jZ_uI, jZ_uJ, jZ_uR, jR_uI, jR_uJ, jr_uI, jr_uJ, jI_uJ, jI_uR, jJ_uI, jJ_uR, jI_uI_eq, jI_uI_ne, jJ_uJ_eq, jJ_uJ_ne, jSh_uI, jSh_uJ, jA_uI, jA_uJ, jA_uR, jI_uIf_eq, jI_uIf_ne, jJ_uIf, jR_uIf, jr_uIf, jZ_uIf, jSh_uIf, jA_uIf, ne_eq, not_false_eq_true, not_true_eq_false, reduceCtorEq, Nat.reduceEqDiff, forall_eq, true_and, and_true, true_implies, forall_const, implies_true, List.mem_cons, List.not_mem_nil, or_false, false_or, or_self, if_true, if_false, reduceIte, Nat.reduceAdd, Nat.reduceMul, Nat.reduceLT, false_implies, Decidable.not_not, bI_eq0, bI_eq1, upd_at, updL_at, Nat.succ_ne_zero, Int32.reduceToNatClampNeg, eq_self, i01, i10]
          have r7 : jI (uI (uI (uI (uI (uI M 47 5 0) 47 6 0) 47 7 0) 47 80 0) 47 0 (nI m)) 47 7 = 0 := by simp only [jN_uI, jN_uJ, jN_uR, jK_uI, jK_uJ, jK_uR, jZ_uI, jZ_uJ, jZ_uR, jR_uI, jR_uJ, jr_uI, jr_uJ, jI_uJ, jI_uR, jJ_uI, jJ_uR, jI_uI_eq, jI_uI_ne, jJ_uJ_eq, jJ_uJ_ne, jSh_uI, jSh_uJ, jA_uI, jA_uJ, jA_uR, jI_uIf_eq, jI_uIf_ne, jJ_uIf, jR_uIf, jr_uIf, jZ_uIf, jSh_uIf, jA_uIf, ne_eq, not_false_eq_true, not_true_eq_false, reduceCtorEq, Nat.reduceEqDiff, forall_eq, true_and, and_true, true_implies, forall_const, implies_true, List.mem_cons, List.not_mem_nil, or_false, false_or, or_self, if_true, if_false, reduceIte, Nat.reduceAdd, Nat.reduceMul, Nat.reduceLT, false_implies, Decidable.not_not, bI_eq0, bI_eq1, upd_at, updL_at, Nat.succ_ne_zero, Int32.reduceToNatClampNeg, eq_self, i01, i10]
          have r80 : jI (uI (uI (uI (uI (uI M 47 5 0) 47 6 0) 47 7 0) 47 80 0) 47 0 (nI m)) 47 80 = 0 := by simp only [jN_uI, jN_uJ, jN_uR, jK_uI, jK_uJ, jK_uR, jZ_uI, jZ_uJ, jZ_uR, jR_uI, jR_uJ, jr_uI, jr_uJ, jI_uJ, jI_uR, jJ_uI, jJ_uR, jI_uI_eq, jI_uI_ne, jJ_uJ_eq, jJ_uJ_ne, jSh_uI, jSh_uJ, jA_uI, jA_uJ, jA_uR, jI_uIf_eq, jI_uIf_ne, jJ_uIf, jR_uIf, jr_uIf, jZ_uIf, jSh_uIf, jA_uIf, ne_eq, not_false_eq_true, not_true_eq_false, reduceCtorEq, Nat.reduceEqDiff, forall_eq, true_and, and_true, true_implies, forall_const, implies_true, List.mem_cons, List.not_mem_nil, or_false, false_or, or_self, if_true, if_false, reduceIte, Nat.reduceAdd, Nat.reduceMul, Nat.reduceLT, false_implies, Decidable.not_not, bI_eq0, bI_eq1, upd_at, updL_at, Nat.succ_ne_zero, Int32.reduceToNatClampNeg, eq_self, i01, i10]
          have gS0 : jFr [0, 27, 28, 45, 47] S0 (uI (uI (uI (uI (uI M 47 5 0) 47 6 0) 47 7 0) 47 80 0) 47 0 (nI m)) := (((((((f1.mono (by decide)).tr (hM.2.1.mono (by decide))).uI (by decide)).uI (by decide)).uI (by decide)).uI (by decide)).uI (by decide))
          have fX : jFr [45, 47, 58, 59] M (uI (uI (uI (uI (uI M 47 5 0) 47 6 0) 47 7 0) 47 80 0) 47 0 (nI m)) := ((((((jFr.refl _ _).uI (by decide)).uI (by decide)).uI (by decide)).uI (by decide)).uI (by decide))
          have kX : jFk 45 [9, 10, 11, 12, 14, 15, 17, 20, 23, 24, 27, 30, 31, 32, 41] M (uI (uI (uI (uI (uI M 47 5 0) 47 6 0) 47 7 0) 47 80 0) 47 0 (nI m)) := ((((((jFk.refl _ _ _).oI (by decide)).oI (by decide)).oI (by decide)).oI (by decide)).oI (by decide))
          have hB : BC (uI (uI (uI (uI (uI M 47 5 0) 47 6 0) 47 7 0) 47 80 0) 47 0 (nI m)) := BC.all (fun n a hn ha => by
            simp only [jN_uI, jN_uJ, jN_uR, jK_uI, jK_uJ, jK_uR, jZ_uI, jZ_uJ, jZ_uR, jR_uI, jR_uJ, jr_uI, jr_uJ, jI_uJ, jI_uR, jJ_uI, jJ_uR, jI_uI_eq, jI_uI_ne, jJ_uJ_eq, jJ_uJ_ne, jSh_uI, jSh_uJ, jA_uI, jA_uJ, jA_uR, jI_uIf_eq, jI_uIf_ne, jJ_uIf, jR_uIf, jr_uIf, jZ_uIf, jSh_uIf, jA_uIf, ne_eq, not_false_eq_true, not_true_eq_false, reduceCtorEq, Nat.reduceEqDiff, forall_eq, true_and, and_true, true_implies, forall_const, implies_true, List.mem_cons, List.not_mem_nil, or_false, false_or, or_self, if_true, if_false, reduceIte, Nat.reduceAdd, Nat.reduceMul, Nat.reduceLT, false_implies, Decidable.not_not, bI_eq0, bI_eq1, upd_at, updL_at, Nat.succ_ne_zero, Int32.reduceToNatClampNeg, eq_self, i01, i10]
            rw [hM.2.1.I 27 (by decide), hM.2.1.I 28 (by decide)]
            exact h0 n a hn ha)
          generalize uI (uI (uI (uI (uI M 47 5 0) 47 6 0) 47 7 0) 47 80 0) 47 0 (nI m) = X at f er r0 r5 r6 r7 r80 gS0 fX kX hB ⊢
          have k1 : jFk 1 [0, 10] S X := k0.tr (jFk.of gS0 (by decide))
          have gR : gR (jI X 47) = m := by rw [gR, r0, nI_tn (by omega)]
          have tn0 : (0 : Int32).toNatClampNeg = 0 := rfl
          have p1 : pR X (jI X 47) := ⟨by rw [gR, r0]; exact ⟨m0, by omega, rfl⟩, by rw [r0, gS0.I 1 (by decide)]; exact i0⟩
          have p5 : pW X (jI X 47) := ⟨⟨0, by omega, r5, fun i hi => absurd hi (Nat.not_lt_zero _)⟩, by rw [r5, gS0.I 2 (by decide)]; exact i1, fun i hi => by rw [r5, tn0] at hi; exact absurd hi (Nat.not_lt_zero _)⟩
          have p6 : pQ X (jI X 47) := ⟨⟨0, by omega, r6, fun i hi => absurd hi (Nat.not_lt_zero _)⟩, by rw [r6, gS0.I 6 (by decide)]; exact i2, fun i hi => by rw [r6, tn0] at hi; exact absurd hi (Nat.not_lt_zero _)⟩
          have p7 : pT X (jI X 47) := by
            refine ⟨⟨0, by omega, r7, fun n hn => ⟨0, by rw [gR]; exact m0, ?_⟩⟩, by rw [r7, gS0.I 1 (by decide)]; exact i3, fun n hn => ?_⟩
            · rw [show n = 0 by omega]; exact r80
            · rw [gS0.I 11 (by decide), i4, upd_at]
              by_cases e : n = 0
              · subst e; rw [if_pos rfl]; exact r80.symm
              · rw [if_neg e, er _ (by omega) (by omega) (by omega) (by omega) (by omega)]; exact q7.2.2 n hn
          have er' : ∀ k, 8 ≤ k → k ≠ 80 → jI X 47 k = jI S 47 k := fun k a b => er k (by omega) (by omega) (by omega) (by omega) b
          have fin := hI.acc2 (g1.mono (by decide)) hM fX kX (MW_iff.mpr ⟨p1, pM.c q2 (er 1 (by omega) (by omega) (by omega) (by omega) (by omega)) (k1.I 1 (by decide)), pU.c q3 (er 2 (by omega) (by omega) (by omega) (by omega) (by omega)) (k1.I 2 (by decide)), pL.c q4 f (by decide) (fun k _ => er' k (by omega) (by omega)) (er 3 (by omega) (by omega) (by omega) (by omega) (by omega)) (er 4 (by omega) (by omega) (by omega) (by omega) (by omega)) (k1.I 7 (by decide)) (k1.I 8 (by decide)), p5, p6, p7, pS.c q8 (fun k _ _ => er' k (by omega) (by omega)) (k1.J 3 (by decide)), pG.c q9 (fun k _ _ => er' k (by omega) (by omega)) (f.I 12 (by decide))⟩) hB
          exact hq' _ fin.1 fin.2
        · rintro (w | w | w)
          · exact z4 w.2.2
          · exact absurd w.1 (by decide)
          · exact absurd w.1 (by decide)
      · have e1 : lo = 0 := by
          rcases hlo with ⟨_, e⟩ | ⟨e, _⟩
          · exact e
          · exact absurd rfl e
        subst e1
        refine ⟨fun _ => ⟨fun q => absurd rfl q, fun _ => ⟨fun z4 => ⟨shA_0 hs, fun _ => ⟨fun q => absurd rfl q, fun _ => ?_⟩, fun q => absurd q (by decide)⟩, fun z4 => no ?_⟩⟩, fun q => absurd q (by decide)⟩
        · simp only [shA_0, shA_1, shR_0_0, shr_0_0, shR_0_1, shr_0_1, shR_0_2, shr_0_2, shR_0_3, shr_0_3, shR_0_4, shr_0_4, shR_0_5, shr_0_5, shR_0_6, shr_0_6, shR_0_7, shr_0_7, shR_0_8, shr_0_8, shR_0_9, shr_0_9, shR_1_4, shr_1_4, shR_1_5, shr_1_5, shR_1_6, shr_1_6, shR_1_9, shr_1_9, shR_1_11, shr_1_11, hs, ne_eq, not_false_eq_true, not_true_eq_false, reduceCtorEq, Nat.reduceEqDiff, forall_eq, true_and, and_true, true_implies, forall_const, implies_true, List.mem_cons, List.not_mem_nil, or_false, false_or, or_self, if_true, if_false, reduceIte, Nat.reduceAdd, Nat.reduceMul, Nat.reduceLT, false_implies, Decidable.not_not, bI_eq0, bI_eq1, upd_at, updL_at, Nat.succ_ne_zero, Int32.reduceToNatClampNeg, eq_self, i01, i10]
          refine ⟨fun _ => ⟨fun q => absurd rfl q, fun _ => ?_⟩, fun q => absurd q (by decide)⟩
          obtain ⟨m, m1, rfl⟩ := nI_of2 (M := 9) (n := 9) rfl (x := y) z3 z4
          refine one 1 (Or.inl rfl) rfl (Or.inr (Or.inl ⟨rfl, by lia, z4⟩)) (fun X a b => ⟨fun _ => ⟨⟨m, m1, a⟩, by rw [a, b]⟩, fun e => absurd e (by decide)⟩)
        · rintro (w | w | w)
          · exact absurd w.1 (by decide)
          · exact z4 w.2.2
          · exact absurd w.1 (by decide)
      · have e1 : lo = 1 := by
          rcases hlo with ⟨e, _⟩ | ⟨_, e⟩
          · exact absurd e (by decide)
          · exact e
        subst e1
        refine ⟨fun _ => ⟨fun _ => ⟨fun z4 => ⟨shA_0 hs, fun _ => ⟨fun _ => ?_, fun q => absurd q (by decide)⟩, fun q => absurd q (by decide)⟩, fun z4 => no ?_⟩, fun q => absurd q (by decide)⟩, fun q => absurd q (by decide)⟩
        · simp only [shA_0, shA_1, shR_0_0, shr_0_0, shR_0_1, shr_0_1, shR_0_2, shr_0_2, shR_0_3, shr_0_3, shR_0_4, shr_0_4, shR_0_5, shr_0_5, shR_0_6, shr_0_6, shR_0_7, shr_0_7, shR_0_8, shr_0_8, shR_0_9, shr_0_9, shR_1_4, shr_1_4, shR_1_5, shr_1_5, shR_1_6, shr_1_6, shR_1_9, shr_1_9, shR_1_11, shr_1_11, hs, ne_eq, not_false_eq_true, not_true_eq_false, reduceCtorEq, Nat.reduceEqDiff, forall_eq, true_and, and_true, true_implies, forall_const, implies_true, List.mem_cons, List.not_mem_nil, or_false, false_or, or_self, if_true, if_false, reduceIte, Nat.reduceAdd, Nat.reduceMul, Nat.reduceLT, false_implies, Decidable.not_not, bI_eq0, bI_eq1, upd_at, updL_at, Nat.succ_ne_zero, Int32.reduceToNatClampNeg, eq_self, i01, i10]
          refine ⟨fun _ => ⟨fun _ => ?_, fun q => absurd q (by decide)⟩, fun q => absurd q (by decide)⟩
          obtain ⟨m, m1, rfl⟩ := nI_of2 (M := 100) (n := 100) rfl (x := y) (by lia) z4
          have m0 : 1 ≤ m := by
            rcases Nat.eq_zero_or_pos m with e | e
            · subst e; exact absurd (by decide) z3
            · exact e
          refine one 2 (Or.inr rfl) rfl (Or.inr (Or.inr ⟨rfl, by lia, z4⟩)) (fun X a b => ⟨fun e => absurd e (by decide), fun _ => ⟨⟨m, m0, m1, a⟩, by rw [a, b]⟩⟩)
        · rintro (w | w | w)
          · exact absurd w.1 (by decide)
          · exact absurd w.1 (by decide)
          · exact z4 w.2.2
  unfold wX11_terms
  exact ⟨fun h => six 1 (Or.inr ⟨h, rfl⟩), fun h => six 0 (Or.inl ⟨h, rfl⟩)⟩
