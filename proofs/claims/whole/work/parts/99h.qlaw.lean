/-! LAW -/
section QL
variable {S : JS} {t e : Nat} {bb : Nat → Nat}
theorem m_start {M : JS} {Q : Int32 → JS → Prop} (hA : jA S 45 12) (eM : M = uI S 45 0 0) (hs : jSh M) (hcw : CW M) (hb : BY M t bb) (h8 : jI M 45 8 = nI t) (h3 : ¬ jI M 47 3 = 6) (he : tkA t bb e = t) (hi : ∀ i, i < e → tkA t bb i < t) (hQ : ∀ M', jFr [45] M M' → jFk 45 [9, 10, 11, 12, 13, 14, 15, 17, 20] M M' → jI M' 45 13 = -1 → MC t e (tkA t bb) (fun i => tnd t bb (tkA t bb i)) (fun i => soP t bb (tkA t bb i)) bb (fun i => woP t bb (tkA t bb i)) M' 0 0 0 → jI M' 45 15 = nI 0 → WmC M' Q) : wX12_law 45 S Q := by
  unfold wX12_law
  refine ⟨hA, fun S2 e2 => ?_⟩
  rw [← eM] at e2
  subst e2
  have ok := tk_ok (e := e) hb.2 he hi
  simp only [shA_45, shA_47, shZ_47, shR_45_2, shr_45_2, shR_45_3, shr_45_3, shR_45_4, shr_45_4, shR_45_5, shr_45_5, shR_45_7, shr_45_7, shR_45_16, shr_45_16, shR_45_18, shr_45_18, shR_45_19, shr_45_19, shR_45_21, shr_45_21, shR_45_22, shr_45_22, shR_45_25, shr_45_25, shR_45_26, shr_45_26, shR_45_28, shr_45_28, shR_45_29, shr_45_29, shR_45_33, shr_45_33, shR_45_34, shr_45_34, shR_45_35, shr_45_35, shR_45_36, shr_45_36, shR_45_37, shr_45_37, shR_45_38, shr_45_38, shR_45_39, shr_45_39, shR_45_40, shr_45_40, shR_45_42, shr_45_42, hs, ne_eq, not_false_eq_true, not_true_eq_false, reduceCtorEq, Nat.reduceEqDiff, forall_eq, true_and, and_true, true_implies, forall_const, implies_true, List.mem_cons, List.not_mem_nil, or_false, false_or, or_self, if_true, if_false, reduceIte, Nat.reduceAdd, Nat.reduceMul, Nat.reduceLT, false_implies, Decidable.not_not, bI_eq0, bI_eq1, upd_at, updL_at, Nat.succ_ne_zero, Int32.reduceToNatClampNeg, eq_self, i01, i10]
  refine ⟨nI_in2 (n := 3) (by omega) (by omega), fun _ => ?_, fun z => absurd z h3⟩
  unfold wX12_begin
  refine ⟨shA_45 hs, fun A2 a2 => ?_⟩
  have f2 : jFr [45] S2 A2 := by rw [a2]; exact (jFr.refl _ _).uI (by decide)
  refine ⟨shA_45 (f2.sh.mpr hs), fun A4 a4 => ?_⟩
  have f4 : jFr [45] S2 A4 := by rw [a4]; exact f2.uI (by decide)
  refine ⟨shA_45 (f4.sh.mpr hs), fun A6 a6 => ?_⟩
  have f6 : jFr [45] S2 A6 := by rw [a6]; exact f4.uI (by decide)
  have k6 : jFk 45 [10, 13, 14] S2 A6 := by rw [a6, a4, a2]; exact (((jFk.refl _ _ _).sI (by decide)).sI (by decide)).sI (by decide)
  have g10 : jI A6 45 10 = nI 0 := by rw [a6, a4, a2]; simp only [jN_uI, jN_uJ, jN_uR, jK_uI, jK_uJ, jK_uR, jZ_uI, jZ_uJ, jZ_uR, jR_uI, jR_uJ, jr_uI, jr_uJ, jI_uJ, jI_uR, jJ_uI, jJ_uR, jI_uI_eq, jI_uI_ne, jJ_uJ_eq, jJ_uJ_ne, jSh_uI, jSh_uJ, jA_uI, jA_uJ, jA_uR, jI_uIf_eq, jI_uIf_ne, jJ_uIf, jR_uIf, jr_uIf, jZ_uIf, jSh_uIf, jA_uIf, ne_eq, not_false_eq_true, not_true_eq_false, reduceCtorEq, Nat.reduceEqDiff, forall_eq, true_and, and_true, true_implies, forall_const, implies_true, List.mem_cons, List.not_mem_nil, or_false, false_or, or_self, if_true, if_false, reduceIte, Nat.reduceAdd, Nat.reduceMul, Nat.reduceLT, false_implies, Decidable.not_not, bI_eq0, bI_eq1, upd_at, updL_at, Nat.succ_ne_zero, Int32.reduceToNatClampNeg, eq_self, i01, i10]; rfl
  have g14 : jI A6 45 14 = 0 := by rw [a6, a4]; simp only [jN_uI, jN_uJ, jN_uR, jK_uI, jK_uJ, jK_uR, jZ_uI, jZ_uJ, jZ_uR, jR_uI, jR_uJ, jr_uI, jr_uJ, jI_uJ, jI_uR, jJ_uI, jJ_uR, jI_uI_eq, jI_uI_ne, jJ_uJ_eq, jJ_uJ_ne, jSh_uI, jSh_uJ, jA_uI, jA_uJ, jA_uR, jI_uIf_eq, jI_uIf_ne, jJ_uIf, jR_uIf, jr_uIf, jZ_uIf, jSh_uIf, jA_uIf, ne_eq, not_false_eq_true, not_true_eq_false, reduceCtorEq, Nat.reduceEqDiff, forall_eq, true_and, and_true, true_implies, forall_const, implies_true, List.mem_cons, List.not_mem_nil, or_false, false_or, or_self, if_true, if_false, reduceIte, Nat.reduceAdd, Nat.reduceMul, Nat.reduceLT, false_implies, Decidable.not_not, bI_eq0, bI_eq1, upd_at, updL_at, Nat.succ_ne_zero, Int32.reduceToNatClampNeg, eq_self, i01, i10]
  have g13 : jI A6 45 13 = -1 := by rw [a6]; simp only [jN_uI, jN_uJ, jN_uR, jK_uI, jK_uJ, jK_uR, jZ_uI, jZ_uJ, jZ_uR, jR_uI, jR_uJ, jr_uI, jr_uJ, jI_uJ, jI_uR, jJ_uI, jJ_uR, jI_uI_eq, jI_uI_ne, jJ_uJ_eq, jJ_uJ_ne, jSh_uI, jSh_uJ, jA_uI, jA_uJ, jA_uR, jI_uIf_eq, jI_uIf_ne, jJ_uIf, jR_uIf, jr_uIf, jZ_uIf, jSh_uIf, jA_uIf, ne_eq, not_false_eq_true, not_true_eq_false, reduceCtorEq, Nat.reduceEqDiff, forall_eq, true_and, and_true, true_implies, forall_const, implies_true, List.mem_cons, List.not_mem_nil, or_false, false_or, or_self, if_true, if_false, reduceIte, Nat.reduceAdd, Nat.reduceMul, Nat.reduceLT, false_implies, Decidable.not_not, bI_eq0, bI_eq1, upd_at, updL_at, Nat.succ_ne_zero, Int32.reduceToNatClampNeg, eq_self, i01, i10]
  clear a6 a4 a2
  have hs6 := f6.sh.mpr hs
  have b6 : BY A6 t bb := ⟨fun j hj => by rw [f6.I 50 (by decide)]; exact hb.1 j hj, hb.2⟩
  have g8 : jI A6 45 8 = nI t := by rw [k6.I 8 (by decide)]; exact h8
  refine ⟨shA_45 hs6, nx_all hs6 b6 g8 g10 (Nat.zero_le _) (fun M7 h7 => ?_)⟩
  have T7 := NS.tm (i := 0) g13 g8 b6 h7
  have f7 : jFr [45] S2 M7 := f6.tr h7.1
  have k7 : jFk 45 [9, 10, 11, 12, 13, 14] S2 M7 := (k6.mono (by decide)).tr (h7.2.1.mono (by decide))
  have c14 : jI M7 45 14 = 0 := by rw [h7.2.1.I 14 (by decide)]; exact g14
  have c13 : jI M7 45 13 = -1 := by rw [h7.2.1.I 13 (by decide)]; exact g13
  have hs7 := f7.sh.mpr hs
  refine ⟨shA_45 hs7, shA_45 (by simp only [jN_uI, jN_uJ, jN_uR, jK_uI, jK_uJ, jK_uR, jZ_uI, jZ_uJ, jZ_uR, jR_uI, jR_uJ, jr_uI, jr_uJ, jI_uJ, jI_uR, jJ_uI, jJ_uR, jI_uI_eq, jI_uI_ne, jJ_uJ_eq, jJ_uJ_ne, jSh_uI, jSh_uJ, jA_uI, jA_uJ, jA_uR, jI_uIf_eq, jI_uIf_ne, jJ_uIf, jR_uIf, jr_uIf, jZ_uIf, jSh_uIf, jA_uIf]; exact hs7), shA_45 (by simp only [jN_uI, jN_uJ, jN_uR, jK_uI, jK_uJ, jK_uR, jZ_uI, jZ_uJ, jZ_uR, jR_uI, jR_uJ, jr_uI, jr_uJ, jI_uJ, jI_uR, jJ_uI, jJ_uR, jI_uI_eq, jI_uI_ne, jJ_uJ_eq, jJ_uJ_ne, jSh_uI, jSh_uJ, jA_uI, jA_uJ, jA_uR, jI_uIf_eq, jI_uIf_ne, jJ_uIf, jR_uIf, jr_uIf, jZ_uIf, jSh_uIf, jA_uIf]; exact hs7), shA_45 (by simp only [jN_uI, jN_uJ, jN_uR, jK_uI, jK_uJ, jK_uR, jZ_uI, jZ_uJ, jZ_uR, jR_uI, jR_uJ, jr_uI, jr_uJ, jI_uJ, jI_uR, jJ_uI, jJ_uR, jI_uI_eq, jI_uI_ne, jJ_uJ_eq, jJ_uJ_ne, jSh_uI, jSh_uJ, jA_uI, jA_uJ, jA_uR, jI_uIf_eq, jI_uIf_ne, jJ_uIf, jR_uIf, jr_uIf, jZ_uIf, jSh_uIf, jA_uIf]; exact hs7), ?_⟩
  have f10 : jFr [45] M7 (uI (uI (uI M7 45 15 0) 45 17 0) 45 20 0) := (((jFr.refl _ _).uI (by decide)).uI (by decide)).uI (by decide)
  have k10 : jFk 45 [15, 17, 20] M7 (uI (uI (uI M7 45 15 0) 45 17 0) 45 20 0) := (((jFk.refl _ _ _).sI (by decide)).sI (by decide)).sI (by decide)
  have d15 : jI (uI (uI (uI M7 45 15 0) 45 17 0) 45 20 0) 45 15 = nI 0 := by simp only [jN_uI, jN_uJ, jN_uR, jK_uI, jK_uJ, jK_uR, jZ_uI, jZ_uJ, jZ_uR, jR_uI, jR_uJ, jr_uI, jr_uJ, jI_uJ, jI_uR, jJ_uI, jJ_uR, jI_uI_eq, jI_uI_ne, jJ_uJ_eq, jJ_uJ_ne, jSh_uI, jSh_uJ, jA_uI, jA_uJ, jA_uR, jI_uIf_eq, jI_uIf_ne, jJ_uIf, jR_uIf, jr_uIf, jZ_uIf, jSh_uIf, jA_uIf, ne_eq, not_false_eq_true, not_true_eq_false, reduceCtorEq, Nat.reduceEqDiff, forall_eq, true_and, and_true, true_implies, forall_const, implies_true, List.mem_cons, List.not_mem_nil, or_false, false_or, or_self, if_true, if_false, reduceIte, Nat.reduceAdd, Nat.reduceMul, Nat.reduceLT, false_implies, Decidable.not_not, bI_eq0, bI_eq1, upd_at, updL_at, Nat.succ_ne_zero, Int32.reduceToNatClampNeg, eq_self, i01, i10]; rfl
  have d17 : jI (uI (uI (uI M7 45 15 0) 45 17 0) 45 20 0) 45 17 = nI 0 := by simp only [jN_uI, jN_uJ, jN_uR, jK_uI, jK_uJ, jK_uR, jZ_uI, jZ_uJ, jZ_uR, jR_uI, jR_uJ, jr_uI, jr_uJ, jI_uJ, jI_uR, jJ_uI, jJ_uR, jI_uI_eq, jI_uI_ne, jJ_uJ_eq, jJ_uJ_ne, jSh_uI, jSh_uJ, jA_uI, jA_uJ, jA_uR, jI_uIf_eq, jI_uIf_ne, jJ_uIf, jR_uIf, jr_uIf, jZ_uIf, jSh_uIf, jA_uIf, ne_eq, not_false_eq_true, not_true_eq_false, reduceCtorEq, Nat.reduceEqDiff, forall_eq, true_and, and_true, true_implies, forall_const, implies_true, List.mem_cons, List.not_mem_nil, or_false, false_or, or_self, if_true, if_false, reduceIte, Nat.reduceAdd, Nat.reduceMul, Nat.reduceLT, false_implies, Decidable.not_not, bI_eq0, bI_eq1, upd_at, updL_at, Nat.succ_ne_zero, Int32.reduceToNatClampNeg, eq_self, i01, i10]; rfl
  have d20 : jI (uI (uI (uI M7 45 15 0) 45 17 0) 45 20 0) 45 20 = nI 0 := by simp only [jN_uI, jN_uJ, jN_uR, jK_uI, jK_uJ, jK_uR, jZ_uI, jZ_uJ, jZ_uR, jR_uI, jR_uJ, jr_uI, jr_uJ, jI_uJ, jI_uR, jJ_uI, jJ_uR, jI_uI_eq, jI_uI_ne, jJ_uJ_eq, jJ_uJ_ne, jSh_uI, jSh_uJ, jA_uI, jA_uJ, jA_uR, jI_uIf_eq, jI_uIf_ne, jJ_uIf, jR_uIf, jr_uIf, jZ_uIf, jSh_uIf, jA_uIf, ne_eq, not_false_eq_true, not_true_eq_false, reduceCtorEq, Nat.reduceEqDiff, forall_eq, true_and, and_true, true_implies, forall_const, implies_true, List.mem_cons, List.not_mem_nil, or_false, false_or, or_self, if_true, if_false, reduceIte, Nat.reduceAdd, Nat.reduceMul, Nat.reduceLT, false_implies, Decidable.not_not, bI_eq0, bI_eq1, upd_at, updL_at, Nat.succ_ne_zero, Int32.reduceToNatClampNeg, eq_self, i01, i10]; rfl
  generalize uI (uI (uI M7 45 15 0) 45 17 0) 45 20 0 = B3 at f10 k10 d15 d17 d20 ⊢
  have fT : jFr [45] S2 B3 := f7.tr f10
  obtain ⟨t1, t2, t3, t4, t5, t6⟩ := T7
  refine hQ B3 fT ((k7.mono (by decide)).tr (k10.mono (by decide))) (by rw [k10.I 13 (by decide)]; exact c13) ⟨⟨fT.sh.mpr hs, hcw.fr fT (by decide)⟩, ⟨?_, ?_, ?_, ?_, ?_, ?_⟩, ⟨by rw [k10.I 14 (by decide)]; exact c14, d17, d20⟩, by omega, by omega, by omega⟩ d15 _ (fun _ w => w)
  · rw [k10.I 8 (by decide)]; exact t1
  · rw [k10.I 9 (by decide)]; exact t2
  · rw [k10.I 10 (by decide)]; exact t3
  · rw [k10.I 11 (by decide)]; exact t4
  · rw [k10.J 12 (by decide)]; exact t5
  · exact ⟨by rw [f10.I 50 (by decide)]; exact t6.1, by rw [k10.I 13 (by decide)]; exact t6.2⟩
theorem q_law {Q : Int32 → JS → Prop} {D : Nat} (hI : Inv S) (hroom : jN S < 990000) (hD : 43 ≤ D) (hq : ∀ r S1, Mdl (wX12_law 45) S r S1 → Q r S1) : wX11_law (jCall jmt jbud D) 0 S Q := by
  have hs := hI.1
  have hN69 := hs.1
  obtain ⟨q1, q2, q3, q4, q5, q6, q7, q8, q9⟩ := MW_iff.mp hI.2.1
  obtain ⟨⟨l, l6, h3, _⟩, a7, _, _⟩ := id q4
  have g7 : jI S 1 7 = nI l := a7.trans h3
  obtain ⟨t, ht4, ht1, ht8, hty⟩ := hI.2.2.2.2.1
  have hby : ∀ j, j < t → jI S 50 j = nI ((fun j => (jI S 50 j).toNatClampNeg) j) ∧ (fun j => (jI S 50 j).toNatClampNeg) j < 256 := by
    intro j hj
    obtain ⟨_, b, b1, b2⟩ := hty j hj
    show jI S 50 j = nI (jI S 50 j).toNatClampNeg ∧ (jI S 50 j).toNatClampNeg < 256
    rw [b2, nI_tn (by omega)]; exact ⟨rfl, b1⟩
  generalize (fun j => (jI S 50 j).toNatClampNeg) = bb at hby
  have hbc : BYc S t bb := ⟨fun j hj => ⟨by rw [(hty j hj).1]; exact (hby j hj).1, (hby j hj).2⟩, ht4, ht1⟩
  have hcw := hI.2.2.2.2.2.2.2.2.1
  have hrf5 : rfP (-5) 3 5 := Or.inr (Or.inr (Or.inr (Or.inl ⟨rfl, rfl, rfl⟩)))
  have hrf6 : rfP (-6) 4 6 := Or.inr (Or.inr (Or.inr (Or.inr ⟨rfl, rfl, rfl⟩)))
  unfold wX11_law
  simp only [shA_0, shA_1, shA_14, shR_0_0, shr_0_0, shR_0_1, shr_0_1, shR_0_2, shr_0_2, shR_0_3, shr_0_3, shR_0_4, shr_0_4, shR_0_5, shr_0_5, shR_0_6, shr_0_6, shR_0_7, shr_0_7, shR_0_8, shr_0_8, shR_0_9, shr_0_9, shR_1_4, shr_1_4, shR_1_5, shr_1_5, shR_1_6, shr_1_6, shR_1_9, shr_1_9, shR_1_11, shr_1_11, shR_14_0, shr_14_0, shR_14_2, shr_14_2, shR_14_3, shr_14_3, shR_14_4, shr_14_4, shR_14_5, shr_14_5, shR_14_6, shr_14_6, shR_14_9, shr_14_9, shR_14_10, shr_14_10, hs, g7, ne_eq, not_false_eq_true, not_true_eq_false, reduceCtorEq, Nat.reduceEqDiff, forall_eq, true_and, and_true, true_implies, forall_const, implies_true, List.mem_cons, List.not_mem_nil, or_false, false_or, or_self, if_true, if_false, reduceIte, Nat.reduceAdd, Nat.reduceMul, Nat.reduceLT, false_implies, Decidable.not_not, bI_eq0, bI_eq1, upd_at, updL_at, Nat.succ_ne_zero, Int32.reduceToNatClampNeg, eq_self, i01, i10]
  rw [li_6, nI_lt' (by omega) (by omega)]
  refine ⟨fun hl => ?_, fun hl => ?_⟩
  · obtain ⟨e, he, hi⟩ := tk_end (t := t) (bb := bb)
    have hx := cx_ok ht4 (fun j hj => (hby j hj).2) he hi
    have h36 : ¬ nI l = (6 : Int32) := by rw [li_6, nI_eq' (by omega) (by omega)]; omega
    have ok := hx.1
    rcases j_top hx with ⟨q', ms, hh, fs, gs, l', v1, v2, v3, tC, tM⟩ | ⟨i', v2, tC, tM⟩
    · -- a law
      have nn : ∀ a : Nat, ¬ some a = none := fun a z => by cases z
      refine vX5_readLaw D (by omega) (fun _ _ _ _ z => z) (c_start (D := D) hs hbc he hi (fun S1 f1 k1 h1 => ?_))
      refine tC S1 0 D _ h1 hD (fun S2 c2 f2 h2 _ cl2 => ?_) 0 (Nat.le_refl _) _ (fun x S' w => w)
      have fS2 : jFr [14, 16, 17, 18, 19, 20, 21, 22] S S2 := (f1.mono (by decide)).tr (f2.1.mono (by decide))
      have hs2 := fS2.sh.mpr hs
      have hN2 : jN S2 = jN S := fS2.N
      have het := ok.1.1
      have hc2 : c2 ≤ 400 := by have := h2.1.2.2.1.2.1; omega
      have s26 : jI S2 14 12 = 26 := by rw [h2.1.2.1.2.1, ok.1.2.2.2]; rfl
      have k14 : jFk 14 [7, 8, 11, 12, 13] S S2 := k1.tr f2.2.1
      unfold wX5_readLaw_33
      refine ⟨fun z => absurd z (by decide), fun _ => ⟨shA_14 hs2, fun z => absurd s26 z, fun _ => ⟨by omega, fun g eg S17 e17 => ?_⟩⟩⟩
      rw [hN2] at eg
      have x17 : jEx (fun _ => False) (fun _ => False) S2 S17 := by rw [e17]; exact jEx.refl.new
      have n17 : jN S17 = g + 1 := by rw [e17, jN_uNew, hN2, eg]
      have K17 : jK S17 g = 3 := by rw [e17, jK_uNew, hN2, if_pos eg]
      clear e17
      have hs17 : jSh S17 := x17.sh hs2 (fun _ _ z => z.elim)
      have lo17 : ∀ y, y < 69 → jI S17 y = jI S2 y := fun y hy => x17.I (by omega) (fun z => z)
      refine ⟨⟨by omega, K17⟩, sX3_init hs17 (by omega) n17 (by omega) K17 (by rw [lo17 14 (by omega)]; exact h2.2) v2 (by rw [lo17 14 (by omega)]; exact h2.1.2.1.2.2.2) hc2 (fun F1 x1 n1 i1 b1 z1 kd1 cd1 => ?_)⟩
      refine ⟨fun z => absurd z (nn g), fun r6 z => ?_⟩
      cases z
      have hsF1 : jSh F1 := x1.sh hs17 (fun y y1 y2 => by omega)
      have lo1 : ∀ y, y < 69 → jI F1 y = jI S2 y := fun y hy => by rw [x1.I (by omega) (by omega)]; exact lo17 y hy
      have lr1 : ∀ y, y < 69 → jR F1 y = jR S y := fun y hy => by rw [x1.R (by omega) (by omega), x17.R (by omega) (fun z => z), fS2.R]
      have K1 : jK F1 g = 3 := by rw [x1.K (by omega)]; exact K17
      -- the chain from S
      have xa : jEx (fun y => Pc y ∨ y = g) (fun y => y = 10 ∨ y = g) S S2 := jEx.of fS2 (by intro y hy; refine Or.inl ?_; simp only [List.mem_cons, List.not_mem_nil, or_false] at hy; unfold Pc; omega)
      have xb : jEx (fun y => Pc y ∨ y = g) (fun y => y = 10 ∨ y = g) S F1 := (xa.tr (x17.mono (fun _ _ z => z.elim) (fun _ _ z => z.elim))).tr (x1.mono (fun _ _ z => Or.inr z) (fun _ _ z => Or.inr z))
      unfold wX11_law_25
      refine ⟨shA_0 hsF1, fun S9 e9 => ?_⟩
      have f9 : jFr [0] F1 S9 := by rw [e9]; exact (jFr.refl _ _).uI (by decide)
      have k9 : jFk 0 [11] F1 S9 := by rw [e9]; exact (jFk.refl _ _ _).sI (by decide)
      have v9 : jI S9 0 11 = -1 := by rw [e9]; simp only [jN_uI, jN_uJ, jN_uR, jK_uI, jK_uJ, jK_uR, jZ_uI, jZ_uJ, jZ_uR, jR_uI, jR_uJ, jr_uI, jr_uJ, jI_uJ, jI_uR, jJ_uI, jJ_uR, jI_uI_eq, jI_uI_ne, jJ_uJ_eq, jJ_uJ_ne, jSh_uI, jSh_uJ, jA_uI, jA_uJ, jA_uR, jI_uIf_eq, jI_uIf_ne, jJ_uIf, jR_uIf, jr_uIf, jZ_uIf, jSh_uIf, jA_uIf, ne_eq, not_false_eq_true, not_true_eq_false, reduceCtorEq, Nat.reduceEqDiff, forall_eq, true_and, and_true, true_implies, forall_const, implies_true, List.mem_cons, List.not_mem_nil, or_false, false_or, or_self, if_true, if_false, reduceIte, Nat.reduceAdd, Nat.reduceMul, Nat.reduceLT, false_implies, Decidable.not_not, bI_eq0, bI_eq1, upd_at, updL_at, Nat.succ_ne_zero, Int32.reduceToNatClampNeg, eq_self, i01, i10]
      clear e9
      have hs9 := f9.sh.mpr hsF1
      refine ⟨shA_0 hs9, by rw [shR_0_2 hs9]; exact nn 14, by rw [shr_0_2 hs9]; exact shA_14 hs9, fun S13 e13 => ?_⟩
      rw [shr_0_2 hs9] at e13
      have f13 : jFr [14] S9 S13 := by rw [e13]; exact (jFr.refl _ _).uI (by decide)
      have v13 : jI S13 14 1 = 0 := by rw [e13]; simp only [jN_uI, jN_uJ, jN_uR, jK_uI, jK_uJ, jK_uR, jZ_uI, jZ_uJ, jZ_uR, jR_uI, jR_uJ, jr_uI, jr_uJ, jI_uJ, jI_uR, jJ_uI, jJ_uR, jI_uI_eq, jI_uI_ne, jJ_uJ_eq, jJ_uJ_ne, jSh_uI, jSh_uJ, jA_uI, jA_uJ, jA_uR, jI_uIf_eq, jI_uIf_ne, jJ_uIf, jR_uIf, jr_uIf, jZ_uIf, jSh_uIf, jA_uIf, ne_eq, not_false_eq_true, not_true_eq_false, reduceCtorEq, Nat.reduceEqDiff, forall_eq, true_and, and_true, true_implies, forall_const, implies_true, List.mem_cons, List.not_mem_nil, or_false, false_or, or_self, if_true, if_false, reduceIte, Nat.reduceAdd, Nat.reduceMul, Nat.reduceLT, false_implies, Decidable.not_not, bI_eq0, bI_eq1, upd_at, updL_at, Nat.succ_ne_zero, Int32.reduceToNatClampNeg, eq_self, i01, i10]
      clear e13
      have hs13 := f13.sh.mpr hs9
      have i13 : ∀ y, y < 69 → y ≠ 0 → y ≠ 14 → jI S13 y = jI S2 y := fun y h1 h2 h3 => by rw [f13.I y (by simp only [List.mem_cons, List.not_mem_nil, or_false]; omega), f9.I y (by simp only [List.mem_cons, List.not_mem_nil, or_false]; omega)]; exact lo1 y h1
      have o13 : ∀ y, y ∉ [14, 16, 17, 18, 19, 20, 21, 22] → y < 69 → y ≠ 0 → y ≠ 14 → jI S13 y = jI S y := fun y h0 h1 h2 h3 => by rw [i13 y h1 h2 h3]; exact fS2.I y h0
      have g13 : jI S13 1 7 = nI l := by rw [o13 1 (by decide) (by omega) (by omega) (by omega)]; exact g7
      have A13 : jA S13 g 3 := (f13.A g 3).mpr ((f9.A g 3).mpr ⟨by omega, K1⟩)
      simp only [shA_0, shA_1, shA_10, shZ_10, shR_0_0, shr_0_0, shR_0_1, shr_0_1, shR_0_2, shr_0_2, shR_0_3, shr_0_3, shR_0_4, shr_0_4, shR_0_5, shr_0_5, shR_0_6, shr_0_6, shR_0_7, shr_0_7, shR_0_8, shr_0_8, shR_0_9, shr_0_9, shR_1_4, shr_1_4, shR_1_5, shr_1_5, shR_1_6, shr_1_6, shR_1_9, shr_1_9, shR_1_11, shr_1_11, hs13, g13, ne_eq, not_false_eq_true, not_true_eq_false, reduceCtorEq, Nat.reduceEqDiff, forall_eq, true_and, and_true, true_implies, forall_const, implies_true, List.mem_cons, List.not_mem_nil, or_false, false_or, or_self, if_true, if_false, reduceIte, Nat.reduceAdd, Nat.reduceMul, Nat.reduceLT, false_implies, Decidable.not_not, bI_eq0, bI_eq1, upd_at, updL_at, Nat.succ_ne_zero, Int32.reduceToNatClampNeg, eq_self, i01, i10]
      rw [nI_tn (by omega)]
      refine ⟨A13, nI_in2 (by omega) (by omega), ?_⟩
      have y21 : jEx (fun _ => False) (fun y => y = 10) S13 (uR S13 10 l (some g)) := (jEx.refl (PI := fun _ => False) (PR := fun y => y = 10)).uR (fun _ => rfl)
      have r21 : jR (uR S13 10 l (some g)) 10 l = some g := by rw [jR_uR_eq, va_up, if_pos rfl]
      have s21 : ∀ i, i ≠ l → jR (uR S13 10 l (some g)) 10 i = jR S 10 i := fun i hi => by rw [jR_uR_eq, va_up, if_neg hi, f13.R, f9.R, lr1 10 (by omega)]
      have n21 : jN (uR S13 10 l (some g)) = jN S13 := rfl
      generalize uR S13 10 l (some g) = S21 at y21 r21 s21 n21 ⊢
      have N13 : jN S13 = g + 6 := by rw [f13.N, f9.N]; exact n1
      have hs21 : jSh S21 := y21.sh hs13 (fun y y1 z => Or.inl z)
      have i21 : ∀ y, y < 69 → jI S21 y = jI S13 y := fun y hy => y21.I (by omega) (fun z => z)
      have g21 : jI S21 1 7 = nI l := by rw [i21 1 (by omega)]; exact g13
      simp only [shA_0, shA_1, shR_0_0, shr_0_0, shR_0_1, shr_0_1, shR_0_2, shr_0_2, shR_0_3, shr_0_3, shR_0_4, shr_0_4, shR_0_5, shr_0_5, shR_0_6, shr_0_6, shR_0_7, shr_0_7, shR_0_8, shr_0_8, shR_0_9, shr_0_9, shR_1_4, shr_1_4, shR_1_5, shr_1_5, shR_1_6, shr_1_6, shR_1_9, shr_1_9, shR_1_11, shr_1_11, hs21, g21, nI_1, jN_uI, jN_uJ, jN_uR, jK_uI, jK_uJ, jK_uR, jZ_uI, jZ_uJ, jZ_uR, jR_uI, jR_uJ, jr_uI, jr_uJ, jI_uJ, jI_uR, jJ_uI, jJ_uR, jI_uI_eq, jI_uI_ne, jJ_uJ_eq, jJ_uJ_ne, jSh_uI, jSh_uJ, jA_uI, jA_uJ, jA_uR, jI_uIf_eq, jI_uIf_ne, jJ_uIf, jR_uIf, jr_uIf, jZ_uIf, jSh_uIf, jA_uIf, ne_eq, not_false_eq_true, not_true_eq_false, reduceCtorEq, Nat.reduceEqDiff, forall_eq, true_and, and_true, true_implies, forall_const, implies_true, List.mem_cons, List.not_mem_nil, or_false, false_or, or_self, if_true, if_false, reduceIte, Nat.reduceAdd, Nat.reduceMul, Nat.reduceLT, false_implies, Decidable.not_not, bI_eq0, bI_eq1, upd_at, updL_at, Nat.succ_ne_zero, Int32.reduceToNatClampNeg, eq_self, i01, i10]
      rw [nI_s1 (by omega), Nat.add_sub_cancel]
      have f25 : jFr [1] S21 (uI S21 1 7 (nI (l + 1))) := (jFr.refl _ _).uI (by decide)
      have k25 : jFk 1 [7] S21 (uI S21 1 7 (nI (l + 1))) := (jFk.refl _ _ _).sI (by decide)
      have v25 : jI (uI S21 1 7 (nI (l + 1))) 1 7 = nI (l + 1) := by simp only [jN_uI, jN_uJ, jN_uR, jK_uI, jK_uJ, jK_uR, jZ_uI, jZ_uJ, jZ_uR, jR_uI, jR_uJ, jr_uI, jr_uJ, jI_uJ, jI_uR, jJ_uI, jJ_uR, jI_uI_eq, jI_uI_ne, jJ_uJ_eq, jJ_uJ_ne, jSh_uI, jSh_uJ, jA_uI, jA_uJ, jA_uR, jI_uIf_eq, jI_uIf_ne, jJ_uIf, jR_uIf, jr_uIf, jZ_uIf, jSh_uIf, jA_uIf, ne_eq, not_false_eq_true, not_true_eq_false, reduceCtorEq, Nat.reduceEqDiff, forall_eq, true_and, and_true, true_implies, forall_const, implies_true, List.mem_cons, List.not_mem_nil, or_false, false_or, or_self, if_true, if_false, reduceIte, Nat.reduceAdd, Nat.reduceMul, Nat.reduceLT, false_implies, Decidable.not_not, bI_eq0, bI_eq1, upd_at, updL_at, Nat.succ_ne_zero, Int32.reduceToNatClampNeg, eq_self, i01, i10]
      generalize uI S21 1 7 (nI (l + 1)) = S25 at f25 k25 v25 ⊢
      have hs25 := f25.sh.mpr hs21
      refine sX11_acc' (S := S) hs25 hq (fun T Q' hA hM hq' => ?_)
      obtain ⟨hsM, fM, kM0, kM45, m12, m13⟩ := hM _ rfl
      generalize eT : uI T 45 0 0 = M0 at hsM fM kM0 kM45 m12 m13
      have i25 : ∀ y, y ∉ [14, 16, 17, 18, 19, 20, 21, 22] → y < 69 → y ≠ 0 → y ≠ 1 → y ≠ 14 → jI S25 y = jI S y := fun y h0 h1 h2 h4 h3 => by rw [f25.I y (by simp only [List.mem_cons, List.not_mem_nil, or_false]; omega), i21 y h1]; exact o13 y h0 h1 h2 h3
      have iM : ∀ y, y ∉ [14, 16, 17, 18, 19, 20, 21, 22] → y < 69 → y ≠ 0 → y ≠ 1 → y ≠ 14 → y ≠ 45 → jI M0 y = jI S y := fun y h0 h1 h2 h4 h3 h5 => by rw [fM.I y (by simp only [List.mem_cons, List.not_mem_nil, or_false]; omega)]; exact i25 y h0 h1 h2 h4 h3
      have iM45 : ∀ k, k ≠ 0 → jI M0 45 k = jI S 45 k := fun k hk => by rw [kM45.I k (by simp only [List.mem_cons, List.not_mem_nil, or_false]; omega), i25 45 (by decide) (by omega) (by omega) (by omega) (by omega)]
      -- the chain goes on
      have xc : jEx (fun y => Pc y ∨ y = g) (fun y => y = 10 ∨ y = g) F1 M0 := by
        have a : jEx (fun y => Pc y ∨ y = g) (fun y => y = 10 ∨ y = g) F1 S13 := (jEx.of f9 (by intro y hy; refine Or.inl ?_; simp only [List.mem_cons, List.not_mem_nil, or_false] at hy; unfold Pc; omega)).tr (jEx.of f13 (by intro y hy; refine Or.inl ?_; simp only [List.mem_cons, List.not_mem_nil, or_false] at hy; unfold Pc; omega))
        have b := a.tr (y21.mono (fun _ _ z => z.elim) (fun _ _ z => Or.inl z))
        have c := b.tr (jEx.of f25 (by intro y hy; refine Or.inl ?_; simp only [List.mem_cons, List.not_mem_nil, or_false] at hy; unfold Pc; omega))
        exact c.tr (jEx.of fM (by intro y hy; refine Or.inl ?_; simp only [List.mem_cons, List.not_mem_nil, or_false] at hy; unfold Pc; omega))
      have b45 : BY M0 t bb := ⟨fun j hj => by rw [iM 50 (by decide) (by omega) (by omega) (by omega) (by omega) (by omega)]; exact hby j hj, ht4⟩
      have cw0 : CW M0 := by
        have fk : ∀ y, y = 56 ∨ y = 57 → jJ M0 y = jJ S y := fun y hy => by
          rw [xc.J (by omega) (fun z => by unfold Pc at z; omega), xb.J (by omega) (fun z => by unfold Pc at z; omega)]
        unfold CW at hcw ⊢
        rw [fk 56 (Or.inl rfl), fk 57 (Or.inr rfl)]; exact hcw
      have row0 : jI M0 47 = jI S 47 := iM 47 (by decide) (by omega) (by omega) (by omega) (by omega) (by omega)
      refine m_start hA eT.symm hsM cw0 b45 (by rw [iM45 8 (by omega)]; exact ht8) (by rw [row0, h3]; exact h36) he hi (fun M1 g1 j1 m13' mc m15 => ?_)
      refine tM M1 0 Q' mc m15 (fun M2 n2 g2 mc2 m215 _ clm => ?_)
      have hn2 : n2 ≤ 400 := by have := mc2.2.2.2.2.1; have := ok.1.2.2.1; omega
      have r2 : jI M2 47 = jI S 47 := by rw [g2.1.I 47 (by decide), g1.I 47 (by decide)]; exact row0
      refine ml_copy mc2.1.1 (by rw [r2]; exact h3) hl mc2.2.2.1.1 m215 v2 mc2.2.2.1.2.1 hn2 (fun F fF kF F8 F1z r3 rb rc rk ro => ?_)
      have xd : jEx (fun y => Pc y ∨ y = g) (fun y => y = 10 ∨ y = g) M0 F := by
        have a : jEx (fun y => Pc y ∨ y = g) (fun y => y = 10 ∨ y = g) M0 M1 := jEx.of g1 (by intro y hy; refine Or.inl ?_; simp only [List.mem_cons, List.not_mem_nil, or_false] at hy; unfold Pc; omega)
        have b := a.tr (jEx.of g2.1 (by intro y hy; refine Or.inl ?_; simp only [List.mem_cons, List.not_mem_nil, or_false] at hy; unfold Pc; omega))
        exact b.tr (jEx.of fF (by intro y hy; refine Or.inl ?_; simp only [List.mem_cons, List.not_mem_nil, or_false] at hy; unfold Pc; omega))
      have fx : jFr [45, 47, 51, 52, 53, 54, 55] M0 F := (g1.mono (by decide)).tr ((g2.1.mono (by decide)).tr (fF.mono (by decide)))
      have xF : jEx Pc (fun y => y = 10) S F := ((xb.tr xc).tr xd).mono (fun y h1 z => by rcases z with z | z; exact z; omega) (fun y h1 z => by rcases z with z | z; exact z; omega)
      have nF : jN F = jN S + 6 := by rw [fx.N, fM.N, f25.N, n21, N13, eg]
      -- the law's block, from its making on
      have hi6 : ∀ i, 0 < i → i < 6 → jI F (g + i) = jI F1 (g + i) := fun i i1 i2 => by
        rw [xd.I (by rw [fM.N, f25.N, n21, N13]; omega) (fun z => by unfold Pc at z; omega), xc.I (by omega) (fun z => by unfold Pc at z; omega)]
      have hg0 : jI F g = jI F1 g := by
        rw [fx.I g (by simp only [List.mem_cons, List.not_mem_nil, or_false]; omega), fM.I g (by simp only [List.mem_cons, List.not_mem_nil, or_false]; omega), f25.I g (by simp only [List.mem_cons, List.not_mem_nil, or_false]; omega), y21.I (by omega) (fun z => z), f13.I g (by simp only [List.mem_cons, List.not_mem_nil, or_false]; omega), f9.I g (by simp only [List.mem_cons, List.not_mem_nil, or_false]; omega)]
      have hr0 : jR F g = jR F1 g := by
        rw [fx.R, fM.R, f25.R, y21.R (by omega) (by omega), f13.R, f9.R]
      have hk0 : ∀ i, i < 6 → jK F (g + i) = jK F1 (g + i) ∧ jZ F (g + i) = jZ F1 (g + i) := fun i i2 => by
        rw [xd.K (by rw [fM.N, f25.N, n21, N13]; omega), xc.K (by omega), xd.Z (by rw [fM.N, f25.N, n21, N13]; omega), xc.Z (by omega)]; exact ⟨rfl, rfl⟩
      have hLB : LawB F g := ⟨by omega, (hk0 0 (by omega)).1.trans K1, fun i i1 i2 => by rw [(hk0 i i2).1, hr0]; exact b1 i i1 i2⟩
      have jAF : ∀ i, 0 < i → i < 6 → jA F (g + i) 13 := fun i i1 i2 => ⟨by omega, (hLB.2.2 i i1 i2).1⟩
      have jRF : ∀ i, 0 < i → i < 6 → jR F g i = some (g + i) := fun i i1 i2 => (hLB.2.2 i i1 i2).2
      have kds : ∀ j, j < q' → jI F (g + 1) j = jI S2 16 j ∧ jI F (g + 2) j = jI S2 17 j ∧ jI F (g + 3) j = jI S2 18 j ∧ jI F (g + 4) j = jI S2 19 j := fun j hj => by
        rw [hi6 1 (by omega) (by omega), hi6 2 (by omega) (by omega), hi6 3 (by omega) (by omega), hi6 4 (by omega) (by omega)]
        have := kd1 j hj
        rw [lo17 16 (by omega), lo17 17 (by omega), lo17 18 (by omega), lo17 19 (by omega)] at this
        exact this
      have cds : ∀ j, j < c2 → jI F (g + 5) j = jI S2 20 j := fun j hj => by
        rw [hi6 5 (by omega) (by omega)]
        have := cd1 j hj
        rw [lo17 20 (by omega)] at this
        exact this
      have hZ5 : jZ F (g + 5) = c2 := by rw [(hk0 5 (by omega)).2]; exact z1.2.2.2.2
      have hLR : LawR F g (jI F 47) (200 + 900 * l) := by
        refine ⟨by omega, ⟨by omega, hLB.2.1⟩, g + 1, g + 2, g + 3, g + 4, g + 5, q', ⟨by omega, by omega, by omega, by omega, by omega⟩, ⟨jRF 1 (by omega) (by omega), jRF 2 (by omega) (by omega), jRF 3 (by omega) (by omega), jRF 4 (by omega) (by omega), jRF 5 (by omega) (by omega)⟩, ⟨jAF 1 (by omega) (by omega), jAF 2 (by omega) (by omega), jAF 3 (by omega) (by omega), jAF 4 (by omega) (by omega), jAF 5 (by omega) (by omega)⟩, ⟨by rw [(hk0 1 (by omega)).2]; exact z1.1, by rw [(hk0 2 (by omega)).2]; exact z1.2.1, by rw [(hk0 3 (by omega)).2]; exact z1.2.2.1, by rw [(hk0 4 (by omega)).2]; exact z1.2.2.2.1, by omega⟩, v2, rb, by rw [hg0]; exact i1, fun i hiq => ?_⟩
        obtain ⟨w3, wB, wZ⟩ := v3 i (Nat.zero_le _) hiq
        obtain ⟨cs1, a', b', e', ⟨cs2, cs3, cs4⟩, ⟨cs5, cs6, cs7⟩, cs8, cs9⟩ := cl2 i (Nat.zero_le _) hiq
        obtain ⟨cm1, a, b, e0, ⟨cm2, cm3, cm4⟩, ⟨cm5, cm6, cm7, cm8⟩, cm9, cm10⟩ := clm i (Nat.zero_le _) hiq
        obtain ⟨kd, kt, ku, kv⟩ := kds i hiq
        have rci : ∀ o, o < 8 → jI F 47 (200 + 900 * l + 2 + 8 * i + o) = jI M2 51 (8 * i + o) := fun o ho => by rw [Nat.add_assoc (200 + 900 * l + 2)]; exact rc (8 * i + o) (by omega)
        have gO : ∀ k, k < n2 → gOp (jI F 47) (200 + 900 * l) k = jI M2 52 k ∧ gArg (jI F 47) (200 + 900 * l) k = jI M2 53 k := fun k hk => rk k hk
        refine ⟨ms i, w3, by have := rci 0 (by omega); rw [Nat.add_zero, Nat.add_zero] at this; rw [this]; exact cm1, by rw [kd]; exact cs1, a, b, e0, a', b', e', ⟨cm2, cm3, by omega, cs2, cs3, by omega⟩, ⟨by rw [rci 3 (by omega)]; exact cm5, by rw [rci 4 (by omega)]; exact cm6, by rw [rci 5 (by omega)]; exact cm7, by rw [rci 6 (by omega)]; exact cm8⟩, ⟨by rw [kt]; exact cs5, by rw [ku]; exact cs6, by rw [kv]; exact cs7⟩, fun z => ⟨fs i, mD_congr (cm9 z) (fun k _ k2 => gO k (by omega)), cD_congr (cs8 z) (fun k _ k2 => cds k (by omega)), wB⟩, ?_⟩
        rcases cs9 with ⟨u1, u2⟩ | ⟨u1, u2, u3⟩
        · rcases cm10 with ⟨y1, y2⟩ | ⟨y1, y2, y3⟩
          · exact Or.inl ⟨y2, u2⟩
          · omega
        · rcases cm10 with ⟨y1, y2⟩ | ⟨y1, y2, y3⟩
          · omega
          · exact Or.inr ⟨y2, u2, gs i, mD_congr y3 (fun k _ k2 => gO k (by omega)), cD_congr u3 (fun k _ k2 => cds k (by omega)), wZ⟩
      have e45 : ∀ k, k ∉ [0, 1, 8, 9, 10, 11, 12, 13, 14, 15, 17, 20, 23, 24] → jI F 45 k = jI S 45 k := fun k hk => by
        simp only [List.mem_cons, List.not_mem_nil, or_false, not_or] at hk
        rw [kF.I k (by simp only [List.mem_cons, List.not_mem_nil, or_false]; omega), g2.2.1.I k (by simp only [List.mem_cons, List.not_mem_nil, or_false]; omega), j1.I k (by simp only [List.mem_cons, List.not_mem_nil, or_false]; omega), iM45 k (by omega)]
      have i1F : ∀ k, k ≠ 7 → jI F 1 k = jI S 1 k ∧ jJ F 1 k = jJ S 1 k := fun k hk => by
        rw [fx.I 1 (by decide), fM.I 1 (by decide), k25.I k (by simp only [List.mem_cons, List.not_mem_nil, or_false]; exact hk), i21 1 (by omega), o13 1 (by decide) (by omega) (by omega) (by omega)]
        rw [fx.J 1 (by decide), fM.J 1 (by decide), k25.J k (by simp only [List.mem_cons, List.not_mem_nil, or_false]; exact hk), y21.J (by omega) (fun z => z), f13.J 1 (by decide), f9.J 1 (by decide), x1.J (by omega) (by omega), x17.J (by omega) (fun z => z), fS2.J 1 (by decide)]
        exact ⟨rfl, rfl⟩
      have c0 : ∀ k, k ∉ [12, 13] → jI F 0 k = jI S9 0 k := fun k hk => by
        rw [fx.I 0 (by decide), kM0.I k hk, f25.I 0 (by decide), i21 0 (by omega), f13.I 0 (by decide)]
      refine hq' F (acc_fin hI hl h3 xF eg nF (fun k hk => i1F k (by simp only [List.mem_cons, List.not_mem_nil, or_false] at hk; exact hk)) ?_ r3 (fun k h1 h2 => by rw [ro k h1 h2, r2]) ?_ (fun i hi => ?_) hLB hLR ⟨0, by omega, ?_, by rw [F8]; rfl, fun i hi => by omega⟩ ⟨?_, ?_⟩ (e45 43 (by decide)) ?_ ?_ F1z (fun i hi => ?_)) (by omega)
      · rw [fx.I 1 (by decide), fM.I 1 (by decide)]; exact v25
      · rw [fx.R, fM.R, f25.R]; exact r21
      · rw [fx.R, fM.R, f25.R]; exact s21 i hi
      · rw [fx.I 14 (by decide), fM.I 14 (by decide), f25.I 14 (by decide), i21 14 (by omega), v13]; rfl
      · rw [c0 10 (by decide), k9.I 10 (by decide), lo1 0 (by omega), fS2.I 0 (by decide), e45 6 (by decide)]; exact hI.2.2.2.2.2.2.1.1
      · rw [c0 11 (by decide), v9, kF.I 13 (by decide)]; exact mc2.2.1.2.2.2.2.2.2.symm
      · rw [fx.I 0 (by decide)]; exact m13
      · rw [fx.I 0 (by decide)]; exact m12
      · rcases (by omega : i = 0 ∨ 0 < i) with z | z
        · rw [z, show jK F (g + 0) = 3 from hLB.2.1]; decide
        · rw [(hLB.2.2 i z hi).1]; decide
    · -- a fault
      refine vX5_readLaw D (by omega) (fun _ _ _ _ z => z) (c_start (D := D) hs hbc he hi (fun S1 f1 k1 h1 => ?_))
      refine tC S1 0 D _ h1 hD (fun S2 x2 => ⟨fun _ => ?_, fun r6 z => by cases z⟩) 0 (Nat.le_refl _) _ (fun x S' w => w)
      have fS2 : jFr [0, 14, 16, 17, 18, 19, 20, 21, 22] S S2 := (f1.mono (by decide)).tr (x2.1.mono (by decide))
      have hs2 := fS2.sh.mpr hs
      have p22 : jI S2 22 i' = nI (tkA t bb i') := by rw [x2.1.I 22 (by decide)]; exact (h1.1.2.2.2 i' v2).2
      simp only [shA_0, shA_14, shR_0_0, shr_0_0, shR_0_1, shr_0_1, shR_0_2, shr_0_2, shR_0_3, shr_0_3, shR_0_4, shr_0_4, shR_0_5, shr_0_5, shR_0_6, shr_0_6, shR_0_7, shr_0_7, shR_0_8, shr_0_8, shR_0_9, shr_0_9, shR_14_0, shr_14_0, shR_14_2, shr_14_2, shR_14_3, shr_14_3, shR_14_4, shr_14_4, shR_14_5, shr_14_5, shR_14_6, shr_14_6, shR_14_9, shr_14_9, shR_14_10, shr_14_10, hs2, ne_eq, not_false_eq_true, not_true_eq_false, reduceCtorEq, Nat.reduceEqDiff, forall_eq, true_and, and_true, true_implies, forall_const, implies_true, List.mem_cons, List.not_mem_nil, or_false, false_or, or_self, if_true, if_false, reduceIte, Nat.reduceAdd, Nat.reduceMul, Nat.reduceLT, false_implies, Decidable.not_not, bI_eq0, bI_eq1, upd_at, updL_at, Nat.succ_ne_zero, Int32.reduceToNatClampNeg, eq_self, i01, i10]
      unfold wX5_faultPlace
      simp only [shA_14, shA_22, shZ_22, shR_14_0, shr_14_0, shR_14_2, shr_14_2, shR_14_3, shr_14_3, shR_14_4, shr_14_4, shR_14_5, shr_14_5, shR_14_6, shr_14_6, shR_14_9, shr_14_9, shR_14_10, shr_14_10, hs2, x2.2.2, ne_eq, not_false_eq_true, not_true_eq_false, reduceCtorEq, Nat.reduceEqDiff, forall_eq, true_and, and_true, true_implies, forall_const, implies_true, List.mem_cons, List.not_mem_nil, or_false, false_or, or_self, if_true, if_false, reduceIte, Nat.reduceAdd, Nat.reduceMul, Nat.reduceLT, false_implies, Decidable.not_not, bI_eq0, bI_eq1, upd_at, updL_at, Nat.succ_ne_zero, Int32.reduceToNatClampNeg, eq_self, i01, i10]
      have het := ok.1.1
      rw [nI_tn (by omega), p22]
      refine ⟨nI_in2 (by omega) (by omega), ?_⟩
      unfold wX11_law_25v1
      simp only [shA_0, shA_14, shR_0_0, shr_0_0, shR_0_1, shr_0_1, shR_0_2, shr_0_2, shR_0_3, shr_0_3, shR_0_4, shr_0_4, shR_0_5, shr_0_5, shR_0_6, shr_0_6, shR_0_7, shr_0_7, shR_0_8, shr_0_8, shR_0_9, shr_0_9, shR_14_0, shr_14_0, shR_14_2, shr_14_2, shR_14_3, shr_14_3, shR_14_4, shr_14_4, shR_14_5, shr_14_5, shR_14_6, shr_14_6, shR_14_9, shr_14_9, shR_14_10, shr_14_10, hs2, jN_uI, jN_uJ, jN_uR, jK_uI, jK_uJ, jK_uR, jZ_uI, jZ_uJ, jZ_uR, jR_uI, jR_uJ, jr_uI, jr_uJ, jI_uJ, jI_uR, jJ_uI, jJ_uR, jI_uI_eq, jI_uI_ne, jJ_uJ_eq, jJ_uJ_ne, jSh_uI, jSh_uJ, jA_uI, jA_uJ, jA_uR, jI_uIf_eq, jI_uIf_ne, jJ_uIf, jR_uIf, jr_uIf, jZ_uIf, jSh_uIf, jA_uIf, ne_eq, not_false_eq_true, not_true_eq_false, reduceCtorEq, Nat.reduceEqDiff, forall_eq, true_and, and_true, true_implies, forall_const, implies_true, List.mem_cons, List.not_mem_nil, or_false, false_or, or_self, if_true, if_false, reduceIte, Nat.reduceAdd, Nat.reduceMul, Nat.reduceLT, false_implies, Decidable.not_not, bI_eq0, bI_eq1, upd_at, updL_at, Nat.succ_ne_zero, Int32.reduceToNatClampNeg, eq_self, i01, i10]
      have fX : jFr [0, 14, 16, 17, 18, 19, 20, 21, 22] S (uI (uI S2 0 11 (nI (tkA t bb i'))) 14 1 0) := (fS2.uI (by decide)).uI (by decide)
      have e0 : jI S2 0 = jI S 0 := by rw [x2.1.I 0 (by decide), f1.I 0 (by decide)]
      have kX : jFk 0 [11] S (uI (uI S2 0 11 (nI (tkA t bb i'))) 14 1 0) := by
        refine jFk.oI (jFk.sI (fun k _ => ⟨by rw [e0], ?_⟩) (by decide)) (by decide)
        rw [x2.1.J 0 (by decide), f1.J 0 (by decide)]
      have x1 : jI (uI (uI S2 0 11 (nI (tkA t bb i'))) 14 1 0) 14 1 = 0 := by simp only [jN_uI, jN_uJ, jN_uR, jK_uI, jK_uJ, jK_uR, jZ_uI, jZ_uJ, jZ_uR, jR_uI, jR_uJ, jr_uI, jr_uJ, jI_uJ, jI_uR, jJ_uI, jJ_uR, jI_uI_eq, jI_uI_ne, jJ_uJ_eq, jJ_uJ_ne, jSh_uI, jSh_uJ, jA_uI, jA_uJ, jA_uR, jI_uIf_eq, jI_uIf_ne, jJ_uIf, jR_uIf, jr_uIf, jZ_uIf, jSh_uIf, jA_uIf, ne_eq, not_false_eq_true, not_true_eq_false, reduceCtorEq, Nat.reduceEqDiff, forall_eq, true_and, and_true, true_implies, forall_const, implies_true, List.mem_cons, List.not_mem_nil, or_false, false_or, or_self, if_true, if_false, reduceIte, Nat.reduceAdd, Nat.reduceMul, Nat.reduceLT, false_implies, Decidable.not_not, bI_eq0, bI_eq1, upd_at, updL_at, Nat.succ_ne_zero, Int32.reduceToNatClampNeg, eq_self, i01, i10]
      have x11 : jI (uI (uI S2 0 11 (nI (tkA t bb i'))) 14 1 0) 0 11 = nI (tkA t bb i') := by simp only [jN_uI, jN_uJ, jN_uR, jK_uI, jK_uJ, jK_uR, jZ_uI, jZ_uJ, jZ_uR, jR_uI, jR_uJ, jr_uI, jr_uJ, jI_uJ, jI_uR, jJ_uI, jJ_uR, jI_uI_eq, jI_uI_ne, jJ_uJ_eq, jJ_uJ_ne, jSh_uI, jSh_uJ, jA_uI, jA_uJ, jA_uR, jI_uIf_eq, jI_uIf_ne, jJ_uIf, jR_uIf, jr_uIf, jZ_uIf, jSh_uIf, jA_uIf, ne_eq, not_false_eq_true, not_true_eq_false, reduceCtorEq, Nat.reduceEqDiff, forall_eq, true_and, and_true, true_implies, forall_const, implies_true, List.mem_cons, List.not_mem_nil, or_false, false_or, or_self, if_true, if_false, reduceIte, Nat.reduceAdd, Nat.reduceMul, Nat.reduceLT, false_implies, Decidable.not_not, bI_eq0, bI_eq1, upd_at, updL_at, Nat.succ_ne_zero, Int32.reduceToNatClampNeg, eq_self, i01, i10]
      generalize uI (uI S2 0 11 (nI (tkA t bb i'))) 14 1 0 = X at fX kX x1 x11 ⊢
      have hsX := fX.sh.mpr hs
      refine sX11_refuse 4 6 hrf6 hsX (hq _ _ ⟨by simp only [jN_uI, jN_uJ, jN_uR, jK_uI, jK_uJ, jK_uR, jZ_uI, jZ_uJ, jZ_uR, jR_uI, jR_uJ, jr_uI, jr_uJ, jI_uJ, jI_uR, jJ_uI, jJ_uR, jI_uI_eq, jI_uI_ne, jJ_uJ_eq, jJ_uJ_ne, jSh_uI, jSh_uJ, jA_uI, jA_uJ, jA_uR, jI_uIf_eq, jI_uIf_ne, jJ_uIf, jR_uIf, jr_uIf, jZ_uIf, jSh_uIf, jA_uIf]; exact hsX, fun Q' hq' => ?_⟩)
      have hsY : jSh (uI (uI X 0 12 (-6)) 44 4 (jI X 44 4 + 1)) := by simp only [jN_uI, jN_uJ, jN_uR, jK_uI, jK_uJ, jK_uR, jZ_uI, jZ_uJ, jZ_uR, jR_uI, jR_uJ, jr_uI, jr_uJ, jI_uJ, jI_uR, jJ_uI, jJ_uR, jI_uI_eq, jI_uI_ne, jJ_uJ_eq, jJ_uJ_ne, jSh_uI, jSh_uJ, jA_uI, jA_uJ, jA_uR, jI_uIf_eq, jI_uIf_ne, jJ_uIf, jR_uIf, jr_uIf, jZ_uIf, jSh_uIf, jA_uIf]; exact hsX
      have hI45 : jI (uI (uI X 0 12 (-6)) 44 4 (jI X 44 4 + 1)) 45 = jI S 45 := by simp only [jN_uI, jN_uJ, jN_uR, jK_uI, jK_uJ, jK_uR, jZ_uI, jZ_uJ, jZ_uR, jR_uI, jR_uJ, jr_uI, jr_uJ, jI_uJ, jI_uR, jJ_uI, jJ_uR, jI_uI_eq, jI_uI_ne, jJ_uJ_eq, jJ_uJ_ne, jSh_uI, jSh_uJ, jA_uI, jA_uJ, jA_uR, jI_uIf_eq, jI_uIf_ne, jJ_uIf, jR_uIf, jr_uIf, jZ_uIf, jSh_uIf, jA_uIf, ne_eq, not_false_eq_true, not_true_eq_false, reduceCtorEq, Nat.reduceEqDiff, forall_eq, true_and, and_true, true_implies, forall_const, implies_true, List.mem_cons, List.not_mem_nil, or_false, false_or, or_self, if_true, if_false, reduceIte, Nat.reduceAdd, Nat.reduceMul, Nat.reduceLT, false_implies, Decidable.not_not, bI_eq0, bI_eq1, upd_at, updL_at, Nat.succ_ne_zero, Int32.reduceToNatClampNeg, eq_self, i01, i10]; exact fX.I 45 (by decide)
      have fY : jFr [0, 14, 16, 17, 18, 19, 20, 21, 22, 44] S (uI (uI X 0 12 (-6)) 44 4 (jI X 44 4 + 1)) := ((fX.mono (by decide)).uI (by decide)).uI (by decide)
      have fin := fun N => ref_fin (N := N) 4 6 hrf6 hI fX kX x1
      generalize uI (uI X 0 12 (-6)) 44 4 (jI X 44 4 + 1) = Y at hsY hI45 fY fin ⊢
      have fM : jFr [45] Y (uI Y 45 0 0) := (jFr.refl _ _).uI (by decide)
      have kM : jFk 45 [0] Y (uI Y 45 0 0) := (jFk.refl _ _ _).sI (by decide)
      refine m_start (shA_45 hsY) rfl (fM.sh.mpr hsY) ((hcw.fr fY (by decide)).fr fM (by decide)) ⟨fun j hj => ?_, ht4⟩ ?_ ?_ he hi (fun M1 g1 j1 m13 mc m15 => ?_)
      · rw [fM.I 50 (by decide), fY.I 50 (by decide)]; exact hby j hj
      · rw [kM.I 8 (by decide), hI45]; exact ht8
      · rw [fM.I 47 (by decide), fY.I 47 (by decide), h3]; exact h36
      refine tM M1 0 Q' mc m15 (fun M2 y2 => ?_)
      have hsM2 := y2.1.sh.mpr mc.1.1
      unfold wX12_law_50
      refine ⟨shA_45 hsM2, fun M3 e3 => ?_⟩
      have f3 : jFr [45] M2 M3 := by rw [e3]; exact (jFr.refl _ _).uI (by decide)
      have k3 : jFk 45 [8] M2 M3 := by rw [e3]; exact (jFk.refl _ _ _).sI (by decide)
      have n8 : jI M3 45 8 = 0 := by rw [e3]; simp only [jN_uI, jN_uJ, jN_uR, jK_uI, jK_uJ, jK_uR, jZ_uI, jZ_uJ, jZ_uR, jR_uI, jR_uJ, jr_uI, jr_uJ, jI_uJ, jI_uR, jJ_uI, jJ_uR, jI_uI_eq, jI_uI_ne, jJ_uJ_eq, jJ_uJ_ne, jSh_uI, jSh_uJ, jA_uI, jA_uJ, jA_uR, jI_uIf_eq, jI_uIf_ne, jJ_uIf, jR_uIf, jr_uIf, jZ_uIf, jSh_uIf, jA_uIf, ne_eq, not_false_eq_true, not_true_eq_false, reduceCtorEq, Nat.reduceEqDiff, forall_eq, true_and, and_true, true_implies, forall_const, implies_true, List.mem_cons, List.not_mem_nil, or_false, false_or, or_self, if_true, if_false, reduceIte, Nat.reduceAdd, Nat.reduceMul, Nat.reduceLT, false_implies, Decidable.not_not, bI_eq0, bI_eq1, upd_at, updL_at, Nat.succ_ne_zero, Int32.reduceToNatClampNeg, eq_self, i01, i10]
      clear e3
      have n14 : jI M3 45 14 = 1 := by rw [k3.I 14 (by decide)]; exact y2.2.2.1
      refine ⟨shA_45 (f3.sh.mpr hsM2), fun z => by rw [n14] at z; exact absurd z (by decide), fun _ => sX12_tell 4 6 hrf6 (f3.sh.mpr hsM2) (hq' _ (fin M3 ?_ ?_ n8 ?_) ?_)⟩
      · exact (fM.mono (by decide)).tr ((g1.mono (by decide)).tr ((y2.1).tr (f3.mono (by decide))))
      · exact (kM.mono (by decide)).tr ((j1.mono (by decide)).tr ((y2.2.1.mono (by decide)).tr (k3.mono (by decide))))
      · rw [x11, k3.I 13 (by decide)]; exact y2.2.2.2.symm
      · show jN M3 ≤ jN S + 12
        rw [f3.N, y2.1.N, g1.N, fM.N, fY.N]; omega
  · -- no room
    have el : l = 6 := by omega
    subst el
    have fX : jFr [0, 14, 16, 17, 18, 19, 20, 21, 22] S (uI S 14 1 0) := (jFr.refl _ _).uI (by decide)
    have kX : jFk 0 [11] S (uI S 14 1 0) := (jFk.refl _ _ _).oI (by decide)
    have x1 : jI (uI S 14 1 0) 14 1 = 0 := by simp only [jN_uI, jN_uJ, jN_uR, jK_uI, jK_uJ, jK_uR, jZ_uI, jZ_uJ, jZ_uR, jR_uI, jR_uJ, jr_uI, jr_uJ, jI_uJ, jI_uR, jJ_uI, jJ_uR, jI_uI_eq, jI_uI_ne, jJ_uJ_eq, jJ_uJ_ne, jSh_uI, jSh_uJ, jA_uI, jA_uJ, jA_uR, jI_uIf_eq, jI_uIf_ne, jJ_uIf, jR_uIf, jr_uIf, jZ_uIf, jSh_uIf, jA_uIf, ne_eq, not_false_eq_true, not_true_eq_false, reduceCtorEq, Nat.reduceEqDiff, forall_eq, true_and, and_true, true_implies, forall_const, implies_true, List.mem_cons, List.not_mem_nil, or_false, false_or, or_self, if_true, if_false, reduceIte, Nat.reduceAdd, Nat.reduceMul, Nat.reduceLT, false_implies, Decidable.not_not, bI_eq0, bI_eq1, upd_at, updL_at, Nat.succ_ne_zero, Int32.reduceToNatClampNeg, eq_self, i01, i10]
    have x11 : jI (uI S 14 1 0) 0 11 = jI S 0 11 := by simp only [jN_uI, jN_uJ, jN_uR, jK_uI, jK_uJ, jK_uR, jZ_uI, jZ_uJ, jZ_uR, jR_uI, jR_uJ, jr_uI, jr_uJ, jI_uJ, jI_uR, jJ_uI, jJ_uR, jI_uI_eq, jI_uI_ne, jJ_uJ_eq, jJ_uJ_ne, jSh_uI, jSh_uJ, jA_uI, jA_uJ, jA_uR, jI_uIf_eq, jI_uIf_ne, jJ_uIf, jR_uIf, jr_uIf, jZ_uIf, jSh_uIf, jA_uIf, ne_eq, not_false_eq_true, not_true_eq_false, reduceCtorEq, Nat.reduceEqDiff, forall_eq, true_and, and_true, true_implies, forall_const, implies_true, List.mem_cons, List.not_mem_nil, or_false, false_or, or_self, if_true, if_false, reduceIte, Nat.reduceAdd, Nat.reduceMul, Nat.reduceLT, false_implies, Decidable.not_not, bI_eq0, bI_eq1, upd_at, updL_at, Nat.succ_ne_zero, Int32.reduceToNatClampNeg, eq_self, i01, i10]
    generalize uI S 14 1 0 = X at fX kX x1 x11 ⊢
    have hsX := fX.sh.mpr hs
    refine ⟨shA_0 hsX, sX11_refuse 3 5 hrf5 hsX (hq _ _ ⟨by simp only [jN_uI, jN_uJ, jN_uR, jK_uI, jK_uJ, jK_uR, jZ_uI, jZ_uJ, jZ_uR, jR_uI, jR_uJ, jr_uI, jr_uJ, jI_uJ, jI_uR, jJ_uI, jJ_uR, jI_uI_eq, jI_uI_ne, jJ_uJ_eq, jJ_uJ_ne, jSh_uI, jSh_uJ, jA_uI, jA_uJ, jA_uR, jI_uIf_eq, jI_uIf_ne, jJ_uIf, jR_uIf, jr_uIf, jZ_uIf, jSh_uIf, jA_uIf]; exact hsX, fun Q' hq' => ?_⟩)⟩
    have hsY : jSh (uI (uI X 0 12 (-5)) 44 3 (jI X 44 3 + 1)) := by simp only [jN_uI, jN_uJ, jN_uR, jK_uI, jK_uJ, jK_uR, jZ_uI, jZ_uJ, jZ_uR, jR_uI, jR_uJ, jr_uI, jr_uJ, jI_uJ, jI_uR, jJ_uI, jJ_uR, jI_uI_eq, jI_uI_ne, jJ_uJ_eq, jJ_uJ_ne, jSh_uI, jSh_uJ, jA_uI, jA_uJ, jA_uR, jI_uIf_eq, jI_uIf_ne, jJ_uIf, jR_uIf, jr_uIf, jZ_uIf, jSh_uIf, jA_uIf]; exact hsX
    have hI45 : jI (uI (uI X 0 12 (-5)) 44 3 (jI X 44 3 + 1)) 45 = jI S 45 := by simp only [jN_uI, jN_uJ, jN_uR, jK_uI, jK_uJ, jK_uR, jZ_uI, jZ_uJ, jZ_uR, jR_uI, jR_uJ, jr_uI, jr_uJ, jI_uJ, jI_uR, jJ_uI, jJ_uR, jI_uI_eq, jI_uI_ne, jJ_uJ_eq, jJ_uJ_ne, jSh_uI, jSh_uJ, jA_uI, jA_uJ, jA_uR, jI_uIf_eq, jI_uIf_ne, jJ_uIf, jR_uIf, jr_uIf, jZ_uIf, jSh_uIf, jA_uIf, ne_eq, not_false_eq_true, not_true_eq_false, reduceCtorEq, Nat.reduceEqDiff, forall_eq, true_and, and_true, true_implies, forall_const, implies_true, List.mem_cons, List.not_mem_nil, or_false, false_or, or_self, if_true, if_false, reduceIte, Nat.reduceAdd, Nat.reduceMul, Nat.reduceLT, false_implies, Decidable.not_not, bI_eq0, bI_eq1, upd_at, updL_at, Nat.succ_ne_zero, Int32.reduceToNatClampNeg, eq_self, i01, i10]; exact fX.I 45 (by decide)
    have fY : jFr [0, 14, 16, 17, 18, 19, 20, 21, 22, 44] S (uI (uI X 0 12 (-5)) 44 3 (jI X 44 3 + 1)) := ((fX.mono (by decide)).uI (by decide)).uI (by decide)
    have fin := fun N => ref_fin (N := N) 3 5 hrf5 hI fX kX x1
    generalize uI (uI X 0 12 (-5)) 44 3 (jI X 44 3 + 1) = Y at hsY hI45 fY fin ⊢
    unfold wX12_law
    refine ⟨shA_45 hsY, fun M1 e1 => ?_⟩
    have f1 : jFr [45] Y M1 := by rw [e1]; exact (jFr.refl _ _).uI (by decide)
    have k1 : jFk 45 [0] Y M1 := by rw [e1]; exact (jFk.refl _ _ _).sI (by decide)
    clear e1
    have hs1 := f1.sh.mpr hsY
    have g3 : jI M1 47 3 = nI 6 := by rw [f1.I 47 (by decide), fY.I 47 (by decide)]; exact h3
    simp only [shA_45, shA_47, shZ_47, shR_45_2, shr_45_2, shR_45_3, shr_45_3, shR_45_4, shr_45_4, shR_45_5, shr_45_5, shR_45_7, shr_45_7, shR_45_16, shr_45_16, shR_45_18, shr_45_18, shR_45_19, shr_45_19, shR_45_21, shr_45_21, shR_45_22, shr_45_22, shR_45_25, shr_45_25, shR_45_26, shr_45_26, shR_45_28, shr_45_28, shR_45_29, shr_45_29, shR_45_33, shr_45_33, shR_45_34, shr_45_34, shR_45_35, shr_45_35, shR_45_36, shr_45_36, shR_45_37, shr_45_37, shR_45_38, shr_45_38, shR_45_39, shr_45_39, shR_45_40, shr_45_40, shR_45_42, shr_45_42, hs1, g3, ne_eq, not_false_eq_true, not_true_eq_false, reduceCtorEq, Nat.reduceEqDiff, forall_eq, true_and, and_true, true_implies, forall_const, implies_true, List.mem_cons, List.not_mem_nil, or_false, false_or, or_self, if_true, if_false, reduceIte, Nat.reduceAdd, Nat.reduceMul, Nat.reduceLT, false_implies, Decidable.not_not, bI_eq0, bI_eq1, upd_at, updL_at, Nat.succ_ne_zero, Int32.reduceToNatClampNeg, eq_self, i01, i10]
    refine ⟨nI_in2 (n := 3) (by omega) (by omega), fun z => absurd rfl z, fun _ => ?_⟩
    have f2 : jFr [45] M1 (uI M1 45 8 0) := (jFr.refl _ _).uI (by decide)
    have k2 : jFk 45 [8] M1 (uI M1 45 8 0) := (jFk.refl _ _ _).sI (by decide)
    have n8 : jI (uI M1 45 8 0) 45 8 = 0 := by simp only [jN_uI, jN_uJ, jN_uR, jK_uI, jK_uJ, jK_uR, jZ_uI, jZ_uJ, jZ_uR, jR_uI, jR_uJ, jr_uI, jr_uJ, jI_uJ, jI_uR, jJ_uI, jJ_uR, jI_uI_eq, jI_uI_ne, jJ_uJ_eq, jJ_uJ_ne, jSh_uI, jSh_uJ, jA_uI, jA_uJ, jA_uR, jI_uIf_eq, jI_uIf_ne, jJ_uIf, jR_uIf, jr_uIf, jZ_uIf, jSh_uIf, jA_uIf, ne_eq, not_false_eq_true, not_true_eq_false, reduceCtorEq, Nat.reduceEqDiff, forall_eq, true_and, and_true, true_implies, forall_const, implies_true, List.mem_cons, List.not_mem_nil, or_false, false_or, or_self, if_true, if_false, reduceIte, Nat.reduceAdd, Nat.reduceMul, Nat.reduceLT, false_implies, Decidable.not_not, bI_eq0, bI_eq1, upd_at, updL_at, Nat.succ_ne_zero, Int32.reduceToNatClampNeg, eq_self, i01, i10]
    generalize uI M1 45 8 0 = M2 at f2 k2 n8 ⊢
    refine ⟨shA_45 (f2.sh.mpr hs1), sX12_tell 3 5 hrf5 (f2.sh.mpr hs1) (hq' _ (fin M2 ?_ ?_ n8 ?_) ?_)⟩
    · exact (f1.mono (by decide)).tr (f2.mono (by decide))
    · exact (k1.mono (by decide)).tr (k2.mono (by decide))
    · rw [x11, k2.I 13 (by decide), k1.I 13 (by decide), hI45]; exact hI.2.2.2.2.2.2.1.2
    · show jN M2 ≤ jN S + 12
      rw [f2.N, f1.N, fY.N]; omega
end QL
