/-! END, FEED -/
theorem Inv.tape {S S' : JS} (hI : Inv S) (f : jFr [14, 15, 45, 50] S S') (k : jFk 45 [0, 8] S S') (hT : TP S') : Inv S' := by
  obtain ⟨i1, i2, i3, i4, i5, i6, i7, i8, i9, i10, i11⟩ := hI
  exact ⟨f.sh.mpr i1, i2.fr f (by decide) (by decide), i3.fr f (by decide), i4.fr f (by decide) (by rw [f.I 0 (by decide)]), hT, i6.fr f (by decide) (by rw [f.I 0 (by decide)]) (k.I 1 (by decide)), i7.fr (by rw [f.I 0 (by decide)]) (k.I 6 (by decide)) (by rw [f.I 0 (by decide)]) (k.I 13 (by decide)), i8.fr f (by decide) (k.I 43 (by decide)), i9.fr f (by decide), i10.fr f (by decide) (by decide), i11.fr f⟩
theorem q_end {S : JS} {Q : Int32 → JS → Prop} {x : Int32} (hI : Inv S) (hq : ∀ r S1, Mdl (wX12_end 45 x) S r S1 → Q r S1) : wX11_end 0 x S Q := by
  have hs := hI.1
  have hI0 := hI.t0
  obtain ⟨t, t1, t2, t3, t4⟩ := hI.2.2.2.2.1
  have e8 : jI (uI S 45 0 0) 45 8 = nI t := by simp only [jN_uI, jN_uJ, jN_uR, jK_uI, jK_uJ, jK_uR, jZ_uI, jZ_uJ, jZ_uR, jR_uI, jR_uJ, jr_uI, jr_uJ, jI_uJ, jI_uR, jJ_uI, jJ_uR, jI_uI_eq, jI_uI_ne, jJ_uJ_eq, jJ_uJ_ne, jSh_uI, jSh_uJ, jA_uI, jA_uJ, jA_uR, jI_uIf_eq, jI_uIf_ne, jJ_uIf, jR_uIf, jr_uIf, jZ_uIf, jSh_uIf, jA_uIf, ne_eq, not_false_eq_true, not_true_eq_false, reduceCtorEq, Nat.reduceEqDiff, forall_eq, true_and, and_true, true_implies, forall_const, implies_true, List.mem_cons, List.not_mem_nil, or_false, false_or, or_self, if_true, if_false, reduceIte, Nat.reduceAdd, Nat.reduceMul, Nat.reduceLT, false_implies, Decidable.not_not, bI_eq0, bI_eq1, upd_at, updL_at, Nat.succ_ne_zero, Int32.reduceToNatClampNeg, eq_self, i01, i10]; exact t3
  have no : ¬ (0 ≤ x ∧ x ≤ nI t) → Q (-1) S := by
    intro hx
    refine hq _ _ ⟨hs, fun Q' hq' => ?_⟩
    unfold wX12_end
    simp only [shA_45 hs, jA_uI, e8, ne_eq, not_false_eq_true, not_true_eq_false, reduceCtorEq, Nat.reduceEqDiff, forall_eq, true_and, and_true, true_implies, forall_const, implies_true, List.mem_cons, List.not_mem_nil, or_false, false_or, or_self, if_true, if_false, reduceIte, Nat.reduceAdd, Nat.reduceMul, Nat.reduceLT, false_implies, Decidable.not_not, bI_eq0, bI_eq1, upd_at, updL_at, Nat.succ_ne_zero, Int32.reduceToNatClampNeg, eq_self, i01, i10]
    exact ⟨fun _ => hq' _ hI0 (Nat.le_add_right _ _), fun z => ⟨fun z2 => absurd ⟨by lia, z2⟩ hx, fun _ => hq' _ hI0 (Nat.le_add_right _ _)⟩⟩
  unfold wX11_end
  refine ⟨fun z => no (fun w => by have := w.1; lia), fun z => ?_⟩
  simp only [shA_0, shA_14, shR_0_0, shr_0_0, shR_0_1, shr_0_1, shR_0_2, shr_0_2, shR_0_3, shr_0_3, shR_0_4, shr_0_4, shR_0_5, shr_0_5, shR_0_6, shr_0_6, shR_0_7, shr_0_7, shR_0_8, shr_0_8, shR_0_9, shr_0_9, shR_14_0, shr_14_0, shR_14_2, shr_14_2, shR_14_3, shr_14_3, shR_14_4, shr_14_4, shR_14_5, shr_14_5, shR_14_6, shr_14_6, shR_14_9, shr_14_9, shR_14_10, shr_14_10, hs, t2, ne_eq, not_false_eq_true, not_true_eq_false, reduceCtorEq, Nat.reduceEqDiff, forall_eq, true_and, and_true, true_implies, forall_const, implies_true, List.mem_cons, List.not_mem_nil, or_false, false_or, or_self, if_true, if_false, reduceIte, Nat.reduceAdd, Nat.reduceMul, Nat.reduceLT, false_implies, Decidable.not_not, bI_eq0, bI_eq1, upd_at, updL_at, Nat.succ_ne_zero, Int32.reduceToNatClampNeg, eq_self, i01, i10]
  refine ⟨fun z2 => ?_, fun z2 => no (fun w => z2 w.2)⟩
  refine hq _ _ ⟨by simp only [jN_uI, jN_uJ, jN_uR, jK_uI, jK_uJ, jK_uR, jZ_uI, jZ_uJ, jZ_uR, jR_uI, jR_uJ, jr_uI, jr_uJ, jI_uJ, jI_uR, jJ_uI, jJ_uR, jI_uI_eq, jI_uI_ne, jJ_uJ_eq, jJ_uJ_ne, jSh_uI, jSh_uJ, jA_uI, jA_uJ, jA_uR, jI_uIf_eq, jI_uIf_ne, jJ_uIf, jR_uIf, jr_uIf, jZ_uIf, jSh_uIf, jA_uIf]; exact hs, fun Q' hq' => ?_⟩
  unfold wX12_end
  simp only [shA_45 hs, t3, jN_uI, jN_uJ, jN_uR, jK_uI, jK_uJ, jK_uR, jZ_uI, jZ_uJ, jZ_uR, jR_uI, jR_uJ, jr_uI, jr_uJ, jI_uJ, jI_uR, jJ_uI, jJ_uR, jI_uI_eq, jI_uI_ne, jJ_uJ_eq, jJ_uJ_ne, jSh_uI, jSh_uJ, jA_uI, jA_uJ, jA_uR, jI_uIf_eq, jI_uIf_ne, jJ_uIf, jR_uIf, jr_uIf, jZ_uIf, jSh_uIf, jA_uIf, ne_eq, not_false_eq_true, not_true_eq_false, reduceCtorEq, Nat.reduceEqDiff, forall_eq, true_and, and_true, true_implies, forall_const, implies_true, List.mem_cons, List.not_mem_nil, or_false, false_or, or_self, if_true, if_false, reduceIte, Nat.reduceAdd, Nat.reduceMul, Nat.reduceLT, false_implies, Decidable.not_not, bI_eq0, bI_eq1, upd_at, updL_at, Nat.succ_ne_zero, Int32.reduceToNatClampNeg, eq_self, i01, i10]
  refine ⟨fun y => absurd y z, fun _ => ⟨fun _ => ?_, fun y => absurd z2 y⟩⟩
  obtain ⟨n, n1, rfl⟩ := nI_ofT (by omega) z z2
  have f : jFr [14, 15, 45, 50] S (uI (uI (uI S 14 1 (nI n)) 45 0 0) 45 8 (nI n)) := (((jFr.refl _ _).uI (by decide)).uI (by decide)).uI (by decide)
  refine hq' _ (hI.tape f ((((jFk.refl _ _ _).oI (by decide)).sI (by decide)).sI (by decide)) ⟨n, by omega, by simp only [jN_uI, jN_uJ, jN_uR, jK_uI, jK_uJ, jK_uR, jZ_uI, jZ_uJ, jZ_uR, jR_uI, jR_uJ, jr_uI, jr_uJ, jI_uJ, jI_uR, jJ_uI, jJ_uR, jI_uI_eq, jI_uI_ne, jJ_uJ_eq, jJ_uJ_ne, jSh_uI, jSh_uJ, jA_uI, jA_uJ, jA_uR, jI_uIf_eq, jI_uIf_ne, jJ_uIf, jR_uIf, jr_uIf, jZ_uIf, jSh_uIf, jA_uIf, ne_eq, not_false_eq_true, not_true_eq_false, reduceCtorEq, Nat.reduceEqDiff, forall_eq, true_and, and_true, true_implies, forall_const, implies_true, List.mem_cons, List.not_mem_nil, or_false, false_or, or_self, if_true, if_false, reduceIte, Nat.reduceAdd, Nat.reduceMul, Nat.reduceLT, false_implies, Decidable.not_not, bI_eq0, bI_eq1, upd_at, updL_at, Nat.succ_ne_zero, Int32.reduceToNatClampNeg, eq_self, i01, i10], by simp only [jN_uI, jN_uJ, jN_uR, jK_uI, jK_uJ, jK_uR, jZ_uI, jZ_uJ, jZ_uR, jR_uI, jR_uJ, jr_uI, jr_uJ, jI_uJ, jI_uR, jJ_uI, jJ_uR, jI_uI_eq, jI_uI_ne, jJ_uJ_eq, jJ_uJ_ne, jSh_uI, jSh_uJ, jA_uI, jA_uJ, jA_uR, jI_uIf_eq, jI_uIf_ne, jJ_uIf, jR_uIf, jr_uIf, jZ_uIf, jSh_uIf, jA_uIf, ne_eq, not_false_eq_true, not_true_eq_false, reduceCtorEq, Nat.reduceEqDiff, forall_eq, true_and, and_true, true_implies, forall_const, implies_true, List.mem_cons, List.not_mem_nil, or_false, false_or, or_self, if_true, if_false, reduceIte, Nat.reduceAdd, Nat.reduceMul, Nat.reduceLT, false_implies, Decidable.not_not, bI_eq0, bI_eq1, upd_at, updL_at, Nat.succ_ne_zero, Int32.reduceToNatClampNeg, eq_self, i01, i10], fun i hi => ?_⟩) (Nat.le_add_right _ _)
  simp only [jN_uI, jN_uJ, jN_uR, jK_uI, jK_uJ, jK_uR, jZ_uI, jZ_uJ, jZ_uR, jR_uI, jR_uJ, jr_uI, jr_uJ, jI_uJ, jI_uR, jJ_uI, jJ_uR, jI_uI_eq, jI_uI_ne, jJ_uJ_eq, jJ_uJ_ne, jSh_uI, jSh_uJ, jA_uI, jA_uJ, jA_uR, jI_uIf_eq, jI_uIf_ne, jJ_uIf, jR_uIf, jr_uIf, jZ_uIf, jSh_uIf, jA_uIf, ne_eq, not_false_eq_true, not_true_eq_false, reduceCtorEq, Nat.reduceEqDiff, forall_eq, true_and, and_true, true_implies, forall_const, implies_true, List.mem_cons, List.not_mem_nil, or_false, false_or, or_self, if_true, if_false, reduceIte, Nat.reduceAdd, Nat.reduceMul, Nat.reduceLT, false_implies, Decidable.not_not, bI_eq0, bI_eq1, upd_at, updL_at, Nat.succ_ne_zero, Int32.reduceToNatClampNeg, eq_self, i01, i10]
  exact t4 i (by omega)
theorem and255 (x : Int32) : ∃ b, b < 256 ∧ x &&& 255 = nI b := by
  refine ⟨(x &&& 255).toBitVec.toNat, ?_, ?_⟩
  · rw [Int32.toBitVec_and, BitVec.toNat_and]
    exact Nat.lt_of_le_of_lt Nat.and_le_right (by decide)
  · apply Int32.toBitVec_inj.mp
    show _ = (Int32.ofNat _).toBitVec
    rw [Int32.toBitVec_ofNat']
    simp
def l24 (c : Nat) : Int32 := 24 - 8 * nI c
theorem l24_a : ∀ c, c < 4 → ¬ l24 c < 0 ∧ l24 c + (-8) = l24 (c + 1) := by decide
theorem l24_b : l24 4 < 0 := by decide
/-- byte c of a word -/
def byt (v : Int32) (c : Nat) : Int32 := (v >>> (l24 c &&& 31)) &&& 255
theorem sX5_putFour {S : JS} {Q : JS → Prop} {v : Int32} {t : Nat} (hs : jSh S) (h1 : jI S 14 1 = nI t) (ht : t + 4 ≤ 400) (h : ∀ S', jFr [14, 15] S S' → jI S' 14 1 = nI (t + 4) → (∀ i, jI S' 15 i = if t ≤ i ∧ i < t + 4 then byt v (i - t) else jI S 15 i) → Q S') : wX5_putFour 14 v S Q := by
  unfold wX5_putFour wX5_putFour_2
  refine jLoop.cnt 4 (fun c q => ∃ S', q = (14, v, l24 c, S') ∧ jFr [14, 15] S S' ∧ jI S' 14 1 = nI (t + c) ∧ ∀ i, jI S' 15 i = if t ≤ i ∧ i < t + c then byt v (i - t) else jI S 15 i) 0 (by omega) ?_ ⟨S, rfl, jFr.refl _ _, h1, fun i => by rw [if_neg (by omega)]⟩
  rintro c _ hc ⟨S1, rfl, f1, i1, e1⟩
  have hs1 := f1.sh.mpr hs
  unfold bX5_putFour_2
  refine ⟨fun z => ?_, fun z => ?_⟩
  · have : c = 4 := by
      rcases Nat.lt_or_ge c 4 with l | l
      · exact absurd z (l24_a c l).1
      · omega
    subst this
    exact h S1 f1 i1 e1
  · have c4 : c < 4 := by
      rcases Nat.lt_or_ge c 4 with l | l
      · exact l
      · rw [show c = 4 by omega] at z; exact absurd l24_b z
    simp only [shA_14, shA_15, shZ_15, shR_14_0, shr_14_0, shR_14_2, shr_14_2, shR_14_3, shr_14_3, shR_14_4, shr_14_4, shR_14_5, shr_14_5, shR_14_6, shr_14_6, shR_14_9, shr_14_9, shR_14_10, shr_14_10, hs1, i1, nI_1, jN_uI, jN_uJ, jN_uR, jK_uI, jK_uJ, jK_uR, jZ_uI, jZ_uJ, jZ_uR, jR_uI, jR_uJ, jr_uI, jr_uJ, jI_uJ, jI_uR, jJ_uI, jJ_uR, jI_uI_eq, jI_uI_ne, jJ_uJ_eq, jJ_uJ_ne, jSh_uI, jSh_uJ, jA_uI, jA_uJ, jA_uR, jI_uIf_eq, jI_uIf_ne, jJ_uIf, jR_uIf, jr_uIf, jZ_uIf, jSh_uIf, jA_uIf, ne_eq, not_false_eq_true, not_true_eq_false, reduceCtorEq, Nat.reduceEqDiff, forall_eq, true_and, and_true, true_implies, forall_const, implies_true, List.mem_cons, List.not_mem_nil, or_false, false_or, or_self, if_true, if_false, reduceIte, Nat.reduceAdd, Nat.reduceMul, Nat.reduceLT, false_implies, Decidable.not_not, bI_eq0, bI_eq1, upd_at, updL_at, Nat.succ_ne_zero, Int32.reduceToNatClampNeg, eq_self, i01, i10]
    rw [li_400, nI_le' (by omega) (by omega), nI_tn (by omega)]
    refine ⟨fun y => by omega, fun _ => ⟨nI_in2 (by omega) (by omega), ?_⟩⟩
    rw [(l24_a c c4).2]
    refine ⟨c4, _, rfl, (f1.uI (by decide)).uI (by decide), by simp only [jN_uI, jN_uJ, jN_uR, jK_uI, jK_uJ, jK_uR, jZ_uI, jZ_uJ, jZ_uR, jR_uI, jR_uJ, jr_uI, jr_uJ, jI_uJ, jI_uR, jJ_uI, jJ_uR, jI_uI_eq, jI_uI_ne, jJ_uJ_eq, jJ_uJ_ne, jSh_uI, jSh_uJ, jA_uI, jA_uJ, jA_uR, jI_uIf_eq, jI_uIf_ne, jJ_uIf, jR_uIf, jr_uIf, jZ_uIf, jSh_uIf, jA_uIf, ne_eq, not_false_eq_true, not_true_eq_false, reduceCtorEq, Nat.reduceEqDiff, forall_eq, true_and, and_true, true_implies, forall_const, implies_true, List.mem_cons, List.not_mem_nil, or_false, false_or, or_self, if_true, if_false, reduceIte, Nat.reduceAdd, Nat.reduceMul, Nat.reduceLT, false_implies, Decidable.not_not, bI_eq0, bI_eq1, upd_at, updL_at, Nat.succ_ne_zero, Int32.reduceToNatClampNeg, eq_self, i01, i10, Nat.add_assoc], fun i => ?_⟩
    simp only [jN_uI, jN_uJ, jN_uR, jK_uI, jK_uJ, jK_uR, jZ_uI, jZ_uJ, jZ_uR, jR_uI, jR_uJ, jr_uI, jr_uJ, jI_uJ, jI_uR, jJ_uI, jJ_uR, jI_uI_eq, jI_uI_ne, jJ_uJ_eq, jJ_uJ_ne, jSh_uI, jSh_uJ, jA_uI, jA_uJ, jA_uR, jI_uIf_eq, jI_uIf_ne, jJ_uIf, jR_uIf, jr_uIf, jZ_uIf, jSh_uIf, jA_uIf, ne_eq, not_false_eq_true, not_true_eq_false, reduceCtorEq, Nat.reduceEqDiff, forall_eq, true_and, and_true, true_implies, forall_const, implies_true, List.mem_cons, List.not_mem_nil, or_false, false_or, or_self, if_true, if_false, reduceIte, Nat.reduceAdd, Nat.reduceMul, Nat.reduceLT, false_implies, Decidable.not_not, bI_eq0, bI_eq1, upd_at, updL_at, Nat.succ_ne_zero, Int32.reduceToNatClampNeg, eq_self, i01, i10, upd_at, e1]
    by_cases e : i = t + c
    · subst e; rw [if_pos rfl, if_pos (by omega), Nat.add_sub_cancel_left]; rfl
    · rw [if_neg e]
      have : (t ≤ i ∧ i < t + (c + 1)) ↔ (t ≤ i ∧ i < t + c) := by omega
      simp only [this]
theorem sX12_four {S : JS} {Q : JS → Prop} {v : Int32} {t : Nat} (hs : jSh S) (h1 : jI S 45 8 = nI t) (ht : t + 4 ≤ 400) (h : ∀ S', jFr [45, 50] S S' → jFk 45 [8] S S' → jI S' 45 8 = nI (t + 4) → (∀ i, jI S' 50 i = if t ≤ i ∧ i < t + 4 then byt v (i - t) else jI S 50 i) → Q S') : wX12_four 45 v S Q := by
  unfold wX12_four wX12_four_2
  refine jLoop.cnt 4 (fun c q => ∃ S', q = (45, v, l24 c, S') ∧ jFr [45, 50] S S' ∧ jFk 45 [8] S S' ∧ jI S' 45 8 = nI (t + c) ∧ ∀ i, jI S' 50 i = if t ≤ i ∧ i < t + c then byt v (i - t) else jI S 50 i) 0 (by omega) ?_ ⟨S, rfl, jFr.refl _ _, jFk.refl _ _ _, h1, fun i => by rw [if_neg (by omega)]⟩
  rintro c _ hc ⟨S1, rfl, f1, k1, i1, e1⟩
  have hs1 := f1.sh.mpr hs
  unfold bX12_four_2
  refine ⟨fun z => ?_, fun z => ?_⟩
  · have : c = 4 := by
      rcases Nat.lt_or_ge c 4 with l | l
      · exact absurd z (l24_a c l).1
      · omega
    subst this
    exact h S1 f1 k1 i1 e1
  · have c4 : c < 4 := by
      rcases Nat.lt_or_ge c 4 with l | l
      · exact l
      · rw [show c = 4 by omega] at z; exact absurd l24_b z
    simp only [shA_45, shA_50, shZ_50, shR_45_2, shr_45_2, shR_45_3, shr_45_3, shR_45_4, shr_45_4, shR_45_5, shr_45_5, shR_45_7, shr_45_7, shR_45_16, shr_45_16, shR_45_18, shr_45_18, shR_45_19, shr_45_19, shR_45_21, shr_45_21, shR_45_22, shr_45_22, shR_45_25, shr_45_25, shR_45_26, shr_45_26, shR_45_28, shr_45_28, shR_45_29, shr_45_29, shR_45_33, shr_45_33, shR_45_34, shr_45_34, shR_45_35, shr_45_35, shR_45_36, shr_45_36, shR_45_37, shr_45_37, shR_45_38, shr_45_38, shR_45_39, shr_45_39, shR_45_40, shr_45_40, shR_45_42, shr_45_42, hs1, i1, nI_1, jN_uI, jN_uJ, jN_uR, jK_uI, jK_uJ, jK_uR, jZ_uI, jZ_uJ, jZ_uR, jR_uI, jR_uJ, jr_uI, jr_uJ, jI_uJ, jI_uR, jJ_uI, jJ_uR, jI_uI_eq, jI_uI_ne, jJ_uJ_eq, jJ_uJ_ne, jSh_uI, jSh_uJ, jA_uI, jA_uJ, jA_uR, jI_uIf_eq, jI_uIf_ne, jJ_uIf, jR_uIf, jr_uIf, jZ_uIf, jSh_uIf, jA_uIf, ne_eq, not_false_eq_true, not_true_eq_false, reduceCtorEq, Nat.reduceEqDiff, forall_eq, true_and, and_true, true_implies, forall_const, implies_true, List.mem_cons, List.not_mem_nil, or_false, false_or, or_self, if_true, if_false, reduceIte, Nat.reduceAdd, Nat.reduceMul, Nat.reduceLT, false_implies, Decidable.not_not, bI_eq0, bI_eq1, upd_at, updL_at, Nat.succ_ne_zero, Int32.reduceToNatClampNeg, eq_self, i01, i10]
    rw [nI_tn (by omega)]
    refine ⟨nI_in2 (by omega) (by omega), ?_⟩
    rw [(l24_a c c4).2]
    refine ⟨c4, _, rfl, (f1.uI (by decide)).uI (by decide), (k1.oI (by decide)).sI (by decide), by simp only [jN_uI, jN_uJ, jN_uR, jK_uI, jK_uJ, jK_uR, jZ_uI, jZ_uJ, jZ_uR, jR_uI, jR_uJ, jr_uI, jr_uJ, jI_uJ, jI_uR, jJ_uI, jJ_uR, jI_uI_eq, jI_uI_ne, jJ_uJ_eq, jJ_uJ_ne, jSh_uI, jSh_uJ, jA_uI, jA_uJ, jA_uR, jI_uIf_eq, jI_uIf_ne, jJ_uIf, jR_uIf, jr_uIf, jZ_uIf, jSh_uIf, jA_uIf, ne_eq, not_false_eq_true, not_true_eq_false, reduceCtorEq, Nat.reduceEqDiff, forall_eq, true_and, and_true, true_implies, forall_const, implies_true, List.mem_cons, List.not_mem_nil, or_false, false_or, or_self, if_true, if_false, reduceIte, Nat.reduceAdd, Nat.reduceMul, Nat.reduceLT, false_implies, Decidable.not_not, bI_eq0, bI_eq1, upd_at, updL_at, Nat.succ_ne_zero, Int32.reduceToNatClampNeg, eq_self, i01, i10, Nat.add_assoc], fun i => ?_⟩
    simp only [jN_uI, jN_uJ, jN_uR, jK_uI, jK_uJ, jK_uR, jZ_uI, jZ_uJ, jZ_uR, jR_uI, jR_uJ, jr_uI, jr_uJ, jI_uJ, jI_uR, jJ_uI, jJ_uR, jI_uI_eq, jI_uI_ne, jJ_uJ_eq, jJ_uJ_ne, jSh_uI, jSh_uJ, jA_uI, jA_uJ, jA_uR, jI_uIf_eq, jI_uIf_ne, jJ_uIf, jR_uIf, jr_uIf, jZ_uIf, jSh_uIf, jA_uIf, ne_eq, not_false_eq_true, not_true_eq_false, reduceCtorEq, Nat.reduceEqDiff, forall_eq, true_and, and_true, true_implies, forall_const, implies_true, List.mem_cons, List.not_mem_nil, or_false, false_or, or_self, if_true, if_false, reduceIte, Nat.reduceAdd, Nat.reduceMul, Nat.reduceLT, false_implies, Decidable.not_not, bI_eq0, bI_eq1, upd_at, updL_at, Nat.succ_ne_zero, Int32.reduceToNatClampNeg, eq_self, i01, i10, upd_at, e1]
    by_cases e : i = t + c
    · subst e; rw [if_pos rfl, if_pos (by omega), Nat.add_sub_cancel_left]; rfl
    · rw [if_neg e]
      have : (t ≤ i ∧ i < t + (c + 1)) ↔ (t ≤ i ∧ i < t + c) := by omega
      simp only [this]
theorem q_feed {S : JS} {Q : Int32 → JS → Prop} {a b c d e : Int32} (hI : Inv S) (hq : ∀ r S1, Mdl (wX12_feed 45 a b c d e) S r S1 → Q r S1) : wX11_feed 0 a b c d e S Q := by
  have hs := hI.1
  have hI0 := hI.t0
  obtain ⟨t, t1, t2, t3, t4⟩ := hI.2.2.2.2.1
  unfold wX11_feed
  simp only [shA_0, shA_14, shR_0_0, shr_0_0, shR_0_1, shr_0_1, shR_0_2, shr_0_2, shR_0_3, shr_0_3, shR_0_4, shr_0_4, shR_0_5, shr_0_5, shR_0_6, shr_0_6, shR_0_7, shr_0_7, shR_0_8, shr_0_8, shR_0_9, shr_0_9, shR_14_0, shr_14_0, shR_14_2, shr_14_2, shR_14_3, shr_14_3, shR_14_4, shr_14_4, shR_14_5, shr_14_5, shR_14_6, shr_14_6, shR_14_9, shr_14_9, shR_14_10, shr_14_10, hs, t2, ne_eq, not_false_eq_true, not_true_eq_false, reduceCtorEq, Nat.reduceEqDiff, forall_eq, true_and, and_true, true_implies, forall_const, implies_true, List.mem_cons, List.not_mem_nil, or_false, false_or, or_self, if_true, if_false, reduceIte, Nat.reduceAdd, Nat.reduceMul, Nat.reduceLT, false_implies, Decidable.not_not, bI_eq0, bI_eq1, upd_at, updL_at, Nat.succ_ne_zero, Int32.reduceToNatClampNeg, eq_self, i01, i10]
  simp (disch := omega) only [li_20, li_400, nI_add, nI_le', ne_eq, not_false_eq_true, not_true_eq_false, reduceCtorEq, Nat.reduceEqDiff, forall_eq, true_and, and_true, true_implies, forall_const, implies_true, List.mem_cons, List.not_mem_nil, or_false, false_or, or_self, if_true, if_false, reduceIte, Nat.reduceAdd, Nat.reduceMul, Nat.reduceLT, false_implies, Decidable.not_not, bI_eq0, bI_eq1, upd_at, updL_at, Nat.succ_ne_zero, Int32.reduceToNatClampNeg, eq_self, i01, i10]
  refine ⟨fun z => ?_, fun z => hq _ _ ⟨hs, fun Q' hq' => ?_⟩⟩
  · refine sX5_putFour hs t2 (by omega) (fun S1 f1 i1 e1 => ?_)
    have hs1 := f1.sh.mpr hs
    simp only [shA_0, shA_14, shR_0_0, shr_0_0, shR_0_1, shr_0_1, shR_0_2, shr_0_2, shR_0_3, shr_0_3, shR_0_4, shr_0_4, shR_0_5, shr_0_5, shR_0_6, shr_0_6, shR_0_7, shr_0_7, shR_0_8, shr_0_8, shR_0_9, shr_0_9, shR_14_0, shr_14_0, shR_14_2, shr_14_2, shR_14_3, shr_14_3, shR_14_4, shr_14_4, shR_14_5, shr_14_5, shR_14_6, shr_14_6, shR_14_9, shr_14_9, shR_14_10, shr_14_10, hs1, ne_eq, not_false_eq_true, not_true_eq_false, reduceCtorEq, Nat.reduceEqDiff, forall_eq, true_and, and_true, true_implies, forall_const, implies_true, List.mem_cons, List.not_mem_nil, or_false, false_or, or_self, if_true, if_false, reduceIte, Nat.reduceAdd, Nat.reduceMul, Nat.reduceLT, false_implies, Decidable.not_not, bI_eq0, bI_eq1, upd_at, updL_at, Nat.succ_ne_zero, Int32.reduceToNatClampNeg, eq_self, i01, i10]
    refine sX5_putFour hs1 i1 (by omega) (fun S2 f2 i2 e2 => ?_)
    have hs2 := f2.sh.mpr hs1
    simp only [shA_0, shA_14, shR_0_0, shr_0_0, shR_0_1, shr_0_1, shR_0_2, shr_0_2, shR_0_3, shr_0_3, shR_0_4, shr_0_4, shR_0_5, shr_0_5, shR_0_6, shr_0_6, shR_0_7, shr_0_7, shR_0_8, shr_0_8, shR_0_9, shr_0_9, shR_14_0, shr_14_0, shR_14_2, shr_14_2, shR_14_3, shr_14_3, shR_14_4, shr_14_4, shR_14_5, shr_14_5, shR_14_6, shr_14_6, shR_14_9, shr_14_9, shR_14_10, shr_14_10, hs2, ne_eq, not_false_eq_true, not_true_eq_false, reduceCtorEq, Nat.reduceEqDiff, forall_eq, true_and, and_true, true_implies, forall_const, implies_true, List.mem_cons, List.not_mem_nil, or_false, false_or, or_self, if_true, if_false, reduceIte, Nat.reduceAdd, Nat.reduceMul, Nat.reduceLT, false_implies, Decidable.not_not, bI_eq0, bI_eq1, upd_at, updL_at, Nat.succ_ne_zero, Int32.reduceToNatClampNeg, eq_self, i01, i10]
    refine sX5_putFour hs2 i2 (by omega) (fun S3 f3 i3 e3 => ?_)
    have hs3 := f3.sh.mpr hs2
    simp only [shA_0, shA_14, shR_0_0, shr_0_0, shR_0_1, shr_0_1, shR_0_2, shr_0_2, shR_0_3, shr_0_3, shR_0_4, shr_0_4, shR_0_5, shr_0_5, shR_0_6, shr_0_6, shR_0_7, shr_0_7, shR_0_8, shr_0_8, shR_0_9, shr_0_9, shR_14_0, shr_14_0, shR_14_2, shr_14_2, shR_14_3, shr_14_3, shR_14_4, shr_14_4, shR_14_5, shr_14_5, shR_14_6, shr_14_6, shR_14_9, shr_14_9, shR_14_10, shr_14_10, hs3, ne_eq, not_false_eq_true, not_true_eq_false, reduceCtorEq, Nat.reduceEqDiff, forall_eq, true_and, and_true, true_implies, forall_const, implies_true, List.mem_cons, List.not_mem_nil, or_false, false_or, or_self, if_true, if_false, reduceIte, Nat.reduceAdd, Nat.reduceMul, Nat.reduceLT, false_implies, Decidable.not_not, bI_eq0, bI_eq1, upd_at, updL_at, Nat.succ_ne_zero, Int32.reduceToNatClampNeg, eq_self, i01, i10]
    refine sX5_putFour hs3 i3 (by omega) (fun S4 f4 i4 e4 => ?_)
    have hs4 := f4.sh.mpr hs3
    simp only [shA_0, shA_14, shR_0_0, shr_0_0, shR_0_1, shr_0_1, shR_0_2, shr_0_2, shR_0_3, shr_0_3, shR_0_4, shr_0_4, shR_0_5, shr_0_5, shR_0_6, shr_0_6, shR_0_7, shr_0_7, shR_0_8, shr_0_8, shR_0_9, shr_0_9, shR_14_0, shr_14_0, shR_14_2, shr_14_2, shR_14_3, shr_14_3, shR_14_4, shr_14_4, shR_14_5, shr_14_5, shR_14_6, shr_14_6, shR_14_9, shr_14_9, shR_14_10, shr_14_10, hs4, ne_eq, not_false_eq_true, not_true_eq_false, reduceCtorEq, Nat.reduceEqDiff, forall_eq, true_and, and_true, true_implies, forall_const, implies_true, List.mem_cons, List.not_mem_nil, or_false, false_or, or_self, if_true, if_false, reduceIte, Nat.reduceAdd, Nat.reduceMul, Nat.reduceLT, false_implies, Decidable.not_not, bI_eq0, bI_eq1, upd_at, updL_at, Nat.succ_ne_zero, Int32.reduceToNatClampNeg, eq_self, i01, i10]
    refine sX5_putFour hs4 i4 (by omega) (fun S5 f5 i5 e5 => ?_)
    have hs5 := f5.sh.mpr hs4
    simp only [shA_0, shA_14, shR_0_0, shr_0_0, shR_0_1, shr_0_1, shR_0_2, shr_0_2, shR_0_3, shr_0_3, shR_0_4, shr_0_4, shR_0_5, shr_0_5, shR_0_6, shr_0_6, shR_0_7, shr_0_7, shR_0_8, shr_0_8, shR_0_9, shr_0_9, shR_14_0, shr_14_0, shR_14_2, shr_14_2, shR_14_3, shr_14_3, shR_14_4, shr_14_4, shR_14_5, shr_14_5, shR_14_6, shr_14_6, shR_14_9, shr_14_9, shR_14_10, shr_14_10, hs5, i5, ne_eq, not_false_eq_true, not_true_eq_false, reduceCtorEq, Nat.reduceEqDiff, forall_eq, true_and, and_true, true_implies, forall_const, implies_true, List.mem_cons, List.not_mem_nil, or_false, false_or, or_self, if_true, if_false, reduceIte, Nat.reduceAdd, Nat.reduceMul, Nat.reduceLT, false_implies, Decidable.not_not, bI_eq0, bI_eq1, upd_at, updL_at, Nat.succ_ne_zero, Int32.reduceToNatClampNeg, eq_self, i01, i10]
    have g : jFr [14, 15] S S5 := (((f1.tr f2).tr f3).tr f4).tr f5
    refine hq _ _ ⟨hs5, fun Q' hq' => ?_⟩
    unfold wX12_feed
    refine ⟨shA_45 hs5, fun M eM => ?_⟩
    have fM : jFr [45] S5 M := by rw [eM]; exact (jFr.refl _ _).uI (by decide)
    have kM : jFk 45 [0] S5 M := by rw [eM]; exact (jFk.refl _ _ _).sI (by decide)
    have hsM := fM.sh.mpr hs5
    have m8 : jI M 45 8 = nI t := by rw [kM.I 8 (by decide), g.I 45 (by decide)]; exact t3
    simp only [shA_45 hsM, m8, ne_eq, not_false_eq_true, not_true_eq_false, reduceCtorEq, Nat.reduceEqDiff, forall_eq, true_and, and_true, true_implies, forall_const, implies_true, List.mem_cons, List.not_mem_nil, or_false, false_or, or_self, if_true, if_false, reduceIte, Nat.reduceAdd, Nat.reduceMul, Nat.reduceLT, false_implies, Decidable.not_not, bI_eq0, bI_eq1, upd_at, updL_at, Nat.succ_ne_zero, Int32.reduceToNatClampNeg, eq_self, i01, i10]
    simp (disch := omega) only [li_20, li_400, nI_add, nI_le', ne_eq, not_false_eq_true, not_true_eq_false, reduceCtorEq, Nat.reduceEqDiff, forall_eq, true_and, and_true, true_implies, forall_const, implies_true, List.mem_cons, List.not_mem_nil, or_false, false_or, or_self, if_true, if_false, reduceIte, Nat.reduceAdd, Nat.reduceMul, Nat.reduceLT, false_implies, Decidable.not_not, bI_eq0, bI_eq1, upd_at, updL_at, Nat.succ_ne_zero, Int32.reduceToNatClampNeg, eq_self, i01, i10]
    refine ⟨fun _ => ?_, fun y => absurd z y⟩
    refine sX12_four hsM m8 (by omega) (fun M1 h1 k1 j1 g1 => ⟨shA_45 (h1.sh.mpr hsM), ?_⟩)
    refine sX12_four (h1.sh.mpr hsM) j1 (by omega) (fun M2 h2 k2 j2 g2 => ⟨shA_45 (h2.sh.mpr (h1.sh.mpr hsM)), ?_⟩)
    have hsM2 := h2.sh.mpr (h1.sh.mpr hsM)
    refine sX12_four hsM2 j2 (by omega) (fun M3 h3 k3 j3 g3 => ⟨shA_45 (h3.sh.mpr hsM2), ?_⟩)
    have hsM3 := h3.sh.mpr hsM2
    refine sX12_four hsM3 j3 (by omega) (fun M4 h4 k4 j4 g4 => ⟨shA_45 (h4.sh.mpr hsM3), ?_⟩)
    have hsM4 := h4.sh.mpr hsM3
    refine sX12_four hsM4 j4 (by omega) (fun M5 h5 k5 j5 g5 => ⟨shA_45 (h5.sh.mpr hsM4), ?_⟩)
    rw [j5]
    have hA : jFr [45, 50] S5 M5 := (((((fM.mono (by decide)).tr h1).tr h2).tr h3).tr h4).tr h5
    have kA : jFk 45 [0, 8] S M5 := (jFk.of g (by decide)).tr ((((((kM.mono (by decide)).tr (k1.mono (by decide))).tr (k2.mono (by decide))).tr (k3.mono (by decide))).tr (k4.mono (by decide))).tr (k5.mono (by decide)))
    refine hq' _ (hI.tape ((g.mono (by decide)).tr (hA.mono (by decide))) kA ⟨t + 20, by omega, by rw [hA.I 14 (by decide)]; exact i5, j5, fun i hi => ?_⟩) ?_
    · rw [hA.I 15 (by decide), e5, e4, e3, e2, e1, g5, g4, g3, g2, g1]
      have em : jI M 50 = jI S 50 := by rw [fM.I 50 (by decide), g.I 50 (by decide)]
      rw [em]
      have ok : ∀ v c, ∃ b, b < 256 ∧ byt v c = nI b := fun v c => and255 _
      split
      · exact ⟨rfl, ok _ _⟩
      · split
        · exact ⟨rfl, ok _ _⟩
        · split
          · exact ⟨rfl, ok _ _⟩
          · split
            · exact ⟨rfl, ok _ _⟩
            · split
              · exact ⟨rfl, ok _ _⟩
              · exact t4 i (by omega)
    · rw [hA.N, g.N]; omega
  · have e8 : jI (uI S 45 0 0) 45 8 = nI t := by simp only [jN_uI, jN_uJ, jN_uR, jK_uI, jK_uJ, jK_uR, jZ_uI, jZ_uJ, jZ_uR, jR_uI, jR_uJ, jr_uI, jr_uJ, jI_uJ, jI_uR, jJ_uI, jJ_uR, jI_uI_eq, jI_uI_ne, jJ_uJ_eq, jJ_uJ_ne, jSh_uI, jSh_uJ, jA_uI, jA_uJ, jA_uR, jI_uIf_eq, jI_uIf_ne, jJ_uIf, jR_uIf, jr_uIf, jZ_uIf, jSh_uIf, jA_uIf, ne_eq, not_false_eq_true, not_true_eq_false, reduceCtorEq, Nat.reduceEqDiff, forall_eq, true_and, and_true, true_implies, forall_const, implies_true, List.mem_cons, List.not_mem_nil, or_false, false_or, or_self, if_true, if_false, reduceIte, Nat.reduceAdd, Nat.reduceMul, Nat.reduceLT, false_implies, Decidable.not_not, bI_eq0, bI_eq1, upd_at, updL_at, Nat.succ_ne_zero, Int32.reduceToNatClampNeg, eq_self, i01, i10]; exact t3
    unfold wX12_feed
    simp only [shA_45 hs, jA_uI, e8, ne_eq, not_false_eq_true, not_true_eq_false, reduceCtorEq, Nat.reduceEqDiff, forall_eq, true_and, and_true, true_implies, forall_const, implies_true, List.mem_cons, List.not_mem_nil, or_false, false_or, or_self, if_true, if_false, reduceIte, Nat.reduceAdd, Nat.reduceMul, Nat.reduceLT, false_implies, Decidable.not_not, bI_eq0, bI_eq1, upd_at, updL_at, Nat.succ_ne_zero, Int32.reduceToNatClampNeg, eq_self, i01, i10]
    simp (disch := omega) only [li_20, li_400, nI_add, nI_le', ne_eq, not_false_eq_true, not_true_eq_false, reduceCtorEq, Nat.reduceEqDiff, forall_eq, true_and, and_true, true_implies, forall_const, implies_true, List.mem_cons, List.not_mem_nil, or_false, false_or, or_self, if_true, if_false, reduceIte, Nat.reduceAdd, Nat.reduceMul, Nat.reduceLT, false_implies, Decidable.not_not, bI_eq0, bI_eq1, upd_at, updL_at, Nat.succ_ne_zero, Int32.reduceToNatClampNeg, eq_self, i01, i10]
    exact ⟨fun y => absurd y z, fun _ => hq' _ hI0 (Nat.le_add_right _ _)⟩
