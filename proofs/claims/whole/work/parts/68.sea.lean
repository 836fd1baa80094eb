/-! REFUSED AND ACCEPTED, by both -/
section RA
variable {S : JS} {Q : Int32 → JS → Prop} {W : JS → (Int32 → JS → Prop) → Prop}
theorem sX11_ref {why : Int32} (i j : Nat) (hw : rfP why i j) (hI : Inv S) (hq : ∀ r S1, Mdl W S r S1 → Q r S1) (go : ∀ S1 Q', jA S1 45 12 → (∀ M, M = uI S1 45 0 0 → jSh M ∧ MW M ∧ (∀ h, h ∉ [0, 44, 45] → jI M h = jI S h) ∧ jFk 45 [0] S M ∧ wX12_tell 45 why M Q') → W S1 Q') : wX11_refuse 0 why S Q := by
  have hs := hI.1
  have hR := hI.refused i j hw
  refine sX11_refuse i j hw hs (hq _ _ ⟨by simp only [jN_uI, jN_uJ, jN_uR, jK_uI, jK_uJ, jK_uR, jZ_uI, jZ_uJ, jZ_uR, jR_uI, jR_uJ, jr_uI, jr_uJ, jI_uJ, jI_uR, jJ_uI, jJ_uR, jI_uI_eq, jI_uI_ne, jJ_uJ_eq, jJ_uJ_ne, jSh_uI, jSh_uJ, jA_uI, jA_uJ, jA_uR, jI_uIf_eq, jI_uIf_ne, jJ_uIf, jR_uIf, jr_uIf, jZ_uIf, jSh_uIf, jA_uIf]; exact hs, fun Q' hq' => go _ Q' (by simp only [jN_uI, jN_uJ, jN_uR, jK_uI, jK_uJ, jK_uR, jZ_uI, jZ_uJ, jZ_uR, jR_uI, jR_uJ, jr_uI, jr_uJ, jI_uJ, jI_uR, jJ_uI, jJ_uR, jI_uI_eq, jI_uI_ne, jJ_uJ_eq, jJ_uJ_ne, jSh_uI, jSh_uJ, jA_uI, jA_uJ, jA_uR, jI_uIf_eq, jI_uIf_ne, jJ_uIf, jR_uIf, jr_uIf, jZ_uIf, jSh_uIf, jA_uIf]; exact shA_45 hs) (fun M eM => ?_)⟩)
  have f : jFr [0, 44, 45] S M := by rw [eM]; exact (((jFr.refl _ _).uI (by decide)).uI (by decide)).uI (by decide)
  refine ⟨f.sh.mpr hs, hI.2.1.fr f (by decide) (by decide), f.I, by rw [eM]; exact (((jFk.refl _ _ _).oI (by decide)).oI (by decide)).sI (by decide), ?_⟩
  refine sX12_tell i j hw (f.sh.mpr hs) ?_
  rw [f.I 46 (by decide), eM]
  exact hq' _ hR (Nat.le_add_right _ _)
theorem sX11_acc {S1 : JS} {v : Int32} {H : List Nat} (hI : Inv S) (f1 : jFr H S S1) (hq : ∀ r S1, Mdl W S r S1 → Q r S1) (go : ∀ S2 Q', jA S2 45 12 → (∀ M, M = uI S2 45 0 0 → jSh M ∧ jFr [0, 45] S1 M ∧ jFk 0 [12, 13] S1 M ∧ jFk 45 [0] S1 M ∧ jI M 0 12 = 0 ∧ jI M 0 13 = 0) → (∀ S3, Inv S3 → jN S3 ≤ jN S + 12 → Q' v S3) → W S2 Q') : wX11_accept 0 v S1 Q := by
  have hs1 := f1.sh.mpr hI.1
  refine sX11_accept hs1 (hq _ _ ⟨by simp only [jN_uI, jN_uJ, jN_uR, jK_uI, jK_uJ, jK_uR, jZ_uI, jZ_uJ, jZ_uR, jR_uI, jR_uJ, jr_uI, jr_uJ, jI_uJ, jI_uR, jJ_uI, jJ_uR, jI_uI_eq, jI_uI_ne, jJ_uJ_eq, jJ_uJ_ne, jSh_uI, jSh_uJ, jA_uI, jA_uJ, jA_uR, jI_uIf_eq, jI_uIf_ne, jJ_uIf, jR_uIf, jr_uIf, jZ_uIf, jSh_uIf, jA_uIf]; exact hs1, fun Q' hq' => go _ Q' (by simp only [jN_uI, jN_uJ, jN_uR, jK_uI, jK_uJ, jK_uR, jZ_uI, jZ_uJ, jZ_uR, jR_uI, jR_uJ, jr_uI, jr_uJ, jI_uJ, jI_uR, jJ_uI, jJ_uR, jI_uI_eq, jI_uI_ne, jJ_uJ_eq, jJ_uJ_ne, jSh_uI, jSh_uJ, jA_uI, jA_uJ, jA_uR, jI_uIf_eq, jI_uIf_ne, jJ_uIf, jR_uIf, jr_uIf, jZ_uIf, jSh_uIf, jA_uIf]; exact shA_45 hs1) (fun M eM => ?_) hq'⟩)
  have f : jFr [0, 45] S1 M := by rw [eM]; exact (((jFr.refl _ _).uI (by decide)).uI (by decide)).uI (by decide)
  refine ⟨f.sh.mpr hs1, f, by rw [eM]; exact (((jFk.refl _ _ _).sI (by decide)).sI (by decide)).oI (by decide), by rw [eM]; exact (((jFk.refl _ _ _).oI (by decide)).oI (by decide)).sI (by decide), ?_, ?_⟩
  · rw [eM]; simp only [jN_uI, jN_uJ, jN_uR, jK_uI, jK_uJ, jK_uR, jZ_uI, jZ_uJ, jZ_uR, jR_uI, jR_uJ, jr_uI, jr_uJ, jI_uJ, jI_uR, jJ_uI, jJ_uR, jI_uI_eq, jI_uI_ne, jJ_uJ_eq, jJ_uJ_ne, jSh_uI, jSh_uJ, jA_uI, jA_uJ, jA_uR, jI_uIf_eq, jI_uIf_ne, jJ_uIf, jR_uIf, jr_uIf, jZ_uIf, jSh_uIf, jA_uIf, ne_eq, not_false_eq_true, not_true_eq_false, reduceCtorEq, Nat.reduceEqDiff, forall_eq, true_and, and_true, true_implies, forall_const, implies_true, List.mem_cons, List.not_mem_nil, or_false, false_or, or_self, if_true, if_false, reduceIte, Nat.reduceAdd, Nat.reduceMul, Nat.reduceLT, false_implies, Decidable.not_not, bI_eq0, bI_eq1, upd_at, updL_at, Nat.succ_ne_zero, Int32.reduceToNatClampNeg, eq_self, i01, i10]
  · rw [eM]; simp only [jN_uI, jN_uJ, jN_uR, jK_uI, jK_uJ, jK_uR, jZ_uI, jZ_uJ, jZ_uR, jR_uI, jR_uJ, jr_uI, jr_uJ, jI_uJ, jI_uR, jJ_uI, jJ_uR, jI_uI_eq, jI_uI_ne, jJ_uJ_eq, jJ_uJ_ne, jSh_uI, jSh_uJ, jA_uI, jA_uJ, jA_uR, jI_uIf_eq, jI_uIf_ne, jJ_uIf, jR_uIf, jr_uIf, jZ_uIf, jSh_uIf, jA_uIf, ne_eq, not_false_eq_true, not_true_eq_false, reduceCtorEq, Nat.reduceEqDiff, forall_eq, true_and, and_true, true_implies, forall_const, implies_true, List.mem_cons, List.not_mem_nil, or_false, false_or, or_self, if_true, if_false, reduceIte, Nat.reduceAdd, Nat.reduceMul, Nat.reduceLT, false_implies, Decidable.not_not, bI_eq0, bI_eq1, upd_at, updL_at, Nat.succ_ne_zero, Int32.reduceToNatClampNeg, eq_self, i01, i10]
theorem Inv.acc2 {S1 M X : JS} (hI : Inv S) (f1 : jFr [1, 2, 3, 4, 5, 6, 7, 8, 9, 11, 12, 24, 25, 26, 27, 28] S S1) (hM : jSh M ∧ jFr [0, 45] S1 M ∧ jFk 0 [12, 13] S1 M ∧ jFk 45 [0] S1 M ∧ jI M 0 12 = 0 ∧ jI M 0 13 = 0) (fX : jFr [45, 47, 58, 59] M X) (kX : jFk 45 [9, 10, 11, 12, 14, 15, 17, 20, 23, 24, 27, 30, 31, 32, 41] M X) (hW : MW X) (hB : BC X) : Inv (uI X 45 1 0) ∧ jN (uI X 45 1 0) ≤ jN S + 12 := by
  obtain ⟨hsM, fM, k0, k5, z12, z13⟩ := hM
  have g : jFr [45] X (uI X 45 1 0) := (jFr.refl _ _).uI (by decide)
  refine ⟨hI.acc (((f1.mono (by decide)).tr (fM.mono (by decide))).tr ((fX.uI (by decide)).mono (by decide))) (((jFk.of f1 (by decide)).tr k0).tr ((jFk.of fX (by decide)).oI (by decide))) (((jFk.of f1 (by decide)).tr (k5.mono (by decide))).tr ((kX.mono (by decide)).sI (by decide))) (hW.fr g (by decide) (by decide)) (hB.fr g (by decide)) ?_ ?_ ?_, ?_⟩
  · rw [g.I 0 (by decide), fX.I 0 (by decide)]; exact z13
  · rw [g.I 0 (by decide), fX.I 0 (by decide)]; exact z12
  · simp only [jN_uI, jN_uJ, jN_uR, jK_uI, jK_uJ, jK_uR, jZ_uI, jZ_uJ, jZ_uR, jR_uI, jR_uJ, jr_uI, jr_uJ, jI_uJ, jI_uR, jJ_uI, jJ_uR, jI_uI_eq, jI_uI_ne, jJ_uJ_eq, jJ_uJ_ne, jSh_uI, jSh_uJ, jA_uI, jA_uJ, jA_uR, jI_uIf_eq, jI_uIf_ne, jJ_uIf, jR_uIf, jr_uIf, jZ_uIf, jSh_uIf, jA_uIf, ne_eq, not_false_eq_true, not_true_eq_false, reduceCtorEq, Nat.reduceEqDiff, forall_eq, true_and, and_true, true_implies, forall_const, implies_true, List.mem_cons, List.not_mem_nil, or_false, false_or, or_self, if_true, if_false, reduceIte, Nat.reduceAdd, Nat.reduceMul, Nat.reduceLT, false_implies, Decidable.not_not, bI_eq0, bI_eq1, upd_at, updL_at, Nat.succ_ne_zero, Int32.reduceToNatClampNeg, eq_self, i01, i10]
  · rw [g.N, fX.N, fM.N, f1.N]; omega
theorem sX12_change {k : Nat} {v : Int32} (hs : jSh S) (hk : k < 5600) (h : Q (jI S 47 k) (uI (uI S 47 k v) 45 1 0)) : wX12_change 45 (nI k) v S Q := by
  unfold wX12_change
  simp only [shA_45, shA_47, shZ_47, shR_45_2, shr_45_2, shR_45_3, shr_45_3, shR_45_4, shr_45_4, shR_45_5, shr_45_5, shR_45_7, shr_45_7, shR_45_16, shr_45_16, shR_45_18, shr_45_18, shR_45_19, shr_45_19, shR_45_21, shr_45_21, shR_45_22, shr_45_22, shR_45_25, shr_45_25, shR_45_26, shr_45_26, shR_45_28, shr_45_28, shR_45_29, shr_45_29, shR_45_33, shr_45_33, shR_45_34, shr_45_34, shR_45_35, shr_45_35, shR_45_36, shr_45_36, shR_45_37, shr_45_37, shR_45_38, shr_45_38, shR_45_39, shr_45_39, shR_45_40, shr_45_40, shR_45_42, shr_45_42, hs, jN_uI, jN_uJ, jN_uR, jK_uI, jK_uJ, jK_uR, jZ_uI, jZ_uJ, jZ_uR, jR_uI, jR_uJ, jr_uI, jr_uJ, jI_uJ, jI_uR, jJ_uI, jJ_uR, jI_uI_eq, jI_uI_ne, jJ_uJ_eq, jJ_uJ_ne, jSh_uI, jSh_uJ, jA_uI, jA_uJ, jA_uR, jI_uIf_eq, jI_uIf_ne, jJ_uIf, jR_uIf, jr_uIf, jZ_uIf, jSh_uIf, jA_uIf, ne_eq, not_false_eq_true, not_true_eq_false, reduceCtorEq, Nat.reduceEqDiff, forall_eq, true_and, and_true, true_implies, forall_const, implies_true, List.mem_cons, List.not_mem_nil, or_false, false_or, or_self, if_true, if_false, reduceIte, Nat.reduceAdd, Nat.reduceMul, Nat.reduceLT, false_implies, Decidable.not_not, bI_eq0, bI_eq1, upd_at, updL_at, Nat.succ_ne_zero, Int32.reduceToNatClampNeg, eq_self, i01, i10]
  rw [nI_tn (by omega)]
  exact ⟨nI_in2 (by omega) (by omega), h⟩
theorem sX12_isRock' {x : Int32} (hs : jSh S) (hr : RowOk (jI S 47)) (h1 : ∀ r, r < gR (jI S 47) → x = nI r → Q 1 S) (h0 : ¬ (0 ≤ x ∧ x < jI S 47 0) → Q 0 S) : wX12_isRock 45 x S Q := by
  obtain ⟨R1, R2, R3⟩ := hr.1
  unfold wX12_isRock
  refine ⟨shA_45 hs, sX12_rocks hs ?_⟩
  rw [R3] at h0 ⊢
  have e : (nI (gR (jI S 47))).toInt64 - 1 = (nI (gR (jI S 47) - 1)).toInt64 := by
    rcases (by omega : gR (jI S 47) = 1 ∨ gR (jI S 47) = 2 ∨ gR (jI S 47) = 3 ∨ gR (jI S 47) = 4 ∨ gR (jI S 47) = 5 ∨ gR (jI S 47) = 6 ∨ gR (jI S 47) = 7 ∨ gR (jI S 47) = 8 ∨ gR (jI S 47) = 9) with q | q | q | q | q | q | q | q | q <;> rw [q] <;> decide
  refine sX12_in' 0 (nI (gR (jI S 47) - 1)) rfl e (fun q1 q2 => ?_) (fun q => ⟨Or.inl rfl, h0 (fun w => q ⟨w.1, ?_⟩)⟩)
  · obtain ⟨n, n1, rfl⟩ := nI_ofT (t := gR (jI S 47) - 1) (by omega) (by lia) q2
    exact ⟨Or.inr rfl, h1 n (by omega) rfl⟩
  · obtain ⟨n, n1, rfl⟩ := inR R2 w.1 w.2
    rw [nI_le' (by omega) (by omega)]; omega
end RA
theorem q_sea {S : JS} {Q : Int32 → JS → Prop} {x y : Int32} (hI : Inv S) (hq : ∀ r S1, Mdl (wX12_sea 45 x y) S r S1 → Q r S1) : wX11_sea 0 x y S Q := by
  have hs := hI.1
  have no : ¬ ((0 ≤ x ∧ x ≤ 11) ∧ (0 ≤ y ∧ y ≤ 99)) → wX11_sea_10 0 S Q := by
    intro hx
    unfold wX11_sea_10
    refine ⟨shA_0 hs, sX11_ref 0 1 (Or.inl ⟨rfl, rfl, rfl⟩) hI hq (fun S1 Q' hA k => ?_)⟩
    unfold wX12_sea wX12_sea_22
    refine ⟨hA, fun M eM => ?_⟩
    obtain ⟨hsM, hmM, eMI, kM, ht⟩ := k M eM
    refine sX12_in' 0 11 rfl rfl (fun h1 h2 => ⟨fun q => absurd q (by decide), fun _ => ?_⟩) (fun _ => ⟨fun _ => ⟨shA_45 hsM, ht⟩, fun q => absurd rfl q⟩)
    exact sX12_in' 0 99 rfl rfl (fun h3 h4 => absurd ⟨⟨h1, h2⟩, h3, h4⟩ hx) (fun _ => ⟨fun _ => ⟨shA_45 hsM, ht⟩, fun q => absurd rfl q⟩)
  unfold wX11_sea
  refine ⟨fun z => no (fun w => by have := w.1.1; lia), fun z1 => ⟨fun z => no (fun w => by have := w.1.2; lia), fun z2 => ⟨fun z => no (fun w => by have := w.2.1; lia), fun z3 => ⟨fun z4 => ?_, fun z => no (fun w => z w.2.2)⟩⟩⟩⟩
  obtain ⟨c, c1, rfl⟩ := nI_of2 (M := 11) (n := 11) rfl z1 (by lia)
  obtain ⟨w, w1, rfl⟩ := nI_of2 (M := 99) (n := 99) rfl z3 z4
  simp only [shA_0, shA_1, shA_12, shZ_12, shR_0_0, shr_0_0, shR_0_1, shr_0_1, shR_0_2, shr_0_2, shR_0_3, shr_0_3, shR_0_4, shr_0_4, shR_0_5, shr_0_5, shR_0_6, shr_0_6, shR_0_7, shr_0_7, shR_0_8, shr_0_8, shR_0_9, shr_0_9, shR_1_4, shr_1_4, shR_1_5, shr_1_5, shR_1_6, shr_1_6, shR_1_9, shr_1_9, shR_1_11, shr_1_11, hs, jN_uI, jN_uJ, jN_uR, jK_uI, jK_uJ, jK_uR, jZ_uI, jZ_uJ, jZ_uR, jR_uI, jR_uJ, jr_uI, jr_uJ, jI_uJ, jI_uR, jJ_uI, jJ_uR, jI_uI_eq, jI_uI_ne, jJ_uJ_eq, jJ_uJ_ne, jSh_uI, jSh_uJ, jA_uI, jA_uJ, jA_uR, jI_uIf_eq, jI_uIf_ne, jJ_uIf, jR_uIf, jr_uIf, jZ_uIf, jSh_uIf, jA_uIf, ne_eq, not_false_eq_true, not_true_eq_false, reduceCtorEq, Nat.reduceEqDiff, forall_eq, true_and, and_true, true_implies, forall_const, implies_true, List.mem_cons, List.not_mem_nil, or_false, false_or, or_self, if_true, if_false, reduceIte, Nat.reduceAdd, Nat.reduceMul, Nat.reduceLT, false_implies, Decidable.not_not, bI_eq0, bI_eq1, upd_at, updL_at, Nat.succ_ne_zero, Int32.reduceToNatClampNeg, eq_self, i01, i10]
  rw [nI_tn (by omega)]
  refine ⟨nI_in2 (by omega) (by omega), ?_⟩
  refine sX11_acc (H := [12]) hI ((jFr.refl _ _).uI (by decide)) hq (fun S2 Q' hA k hq' => ?_)
  unfold wX12_sea
  refine ⟨hA, fun M eM => ?_⟩
  have hM := k M eM
  refine sX12_in' 0 11 rfl rfl (fun h1 h2 => ⟨fun q => absurd q (by decide), fun _ => ?_⟩) (fun q => absurd ⟨by lia, by lia⟩ q)
  refine sX12_in' 0 99 rfl rfl (fun h1 h2 => ⟨fun q => absurd q (by decide), fun _ => ⟨shA_45 hM.1, ?_⟩⟩) (fun q => absurd ⟨by lia, by lia⟩ q)
  rw [li_188, nI_add]
  obtain ⟨q1, q2, q3, q4, q5, q6, q7, q8, q9⟩ := MW_iff.mp hI.2.1
  have eM47 : jI M 47 = jI S 47 := by rw [hM.2.1.I 47 (by decide)]; simp only [jN_uI, jN_uJ, jN_uR, jK_uI, jK_uJ, jK_uR, jZ_uI, jZ_uJ, jZ_uR, jR_uI, jR_uJ, jr_uI, jr_uJ, jI_uJ, jI_uR, jJ_uI, jJ_uR, jI_uI_eq, jI_uI_ne, jJ_uJ_eq, jJ_uJ_ne, jSh_uI, jSh_uJ, jA_uI, jA_uJ, jA_uR, jI_uIf_eq, jI_uIf_ne, jJ_uIf, jR_uIf, jr_uIf, jZ_uIf, jSh_uIf, jA_uIf, ne_eq, not_false_eq_true, not_true_eq_false, reduceCtorEq, Nat.reduceEqDiff, forall_eq, true_and, and_true, true_implies, forall_const, implies_true, List.mem_cons, List.not_mem_nil, or_false, false_or, or_self, if_true, if_false, reduceIte, Nat.reduceAdd, Nat.reduceMul, Nat.reduceLT, false_implies, Decidable.not_not, bI_eq0, bI_eq1, upd_at, updL_at, Nat.succ_ne_zero, Int32.reduceToNatClampNeg, eq_self, i01, i10]
  refine sX12_change hM.1 (by omega) ?_
  rw [eM47, ← q9.2 c (by omega)]
  have f : jFr [0, 12, 45, 47] S (uI M 47 (188 + c) (nI w)) := ((((jFr.refl _ _).uI (by decide)).tr (hM.2.1.mono (by decide))).uI (by decide))
  have er : ∀ k, k ≠ 188 + c → jI (uI M 47 (188 + c) (nI w)) 47 k = jI S 47 k := fun k hk => by simp only [jN_uI, jN_uJ, jN_uR, jK_uI, jK_uJ, jK_uR, jZ_uI, jZ_uJ, jZ_uR, jR_uI, jR_uJ, jr_uI, jr_uJ, jI_uJ, jI_uR, jJ_uI, jJ_uR, jI_uI_eq, jI_uI_ne, jJ_uJ_eq, jJ_uJ_ne, jSh_uI, jSh_uJ, jA_uI, jA_uJ, jA_uR, jI_uIf_eq, jI_uIf_ne, jJ_uIf, jR_uIf, jr_uIf, jZ_uIf, jSh_uIf, jA_uIf, ne_eq, not_false_eq_true, not_true_eq_false, reduceCtorEq, Nat.reduceEqDiff, forall_eq, true_and, and_true, true_implies, forall_const, implies_true, List.mem_cons, List.not_mem_nil, or_false, false_or, or_self, if_true, if_false, reduceIte, Nat.reduceAdd, Nat.reduceMul, Nat.reduceLT, false_implies, Decidable.not_not, bI_eq0, bI_eq1, upd_at, updL_at, Nat.succ_ne_zero, Int32.reduceToNatClampNeg, eq_self, i01, i10, eM47]; rw [if_neg hk]
  have er2 : jI (uI M 47 (188 + c) (nI w)) 47 (188 + c) = nI w := by simp only [jN_uI, jN_uJ, jN_uR, jK_uI, jK_uJ, jK_uR, jZ_uI, jZ_uJ, jZ_uR, jR_uI, jR_uJ, jr_uI, jr_uJ, jI_uJ, jI_uR, jJ_uI, jJ_uR, jI_uI_eq, jI_uI_ne, jJ_uJ_eq, jJ_uJ_ne, jSh_uI, jSh_uJ, jA_uI, jA_uJ, jA_uR, jI_uIf_eq, jI_uIf_ne, jJ_uIf, jR_uIf, jr_uIf, jZ_uIf, jSh_uIf, jA_uIf, ne_eq, not_false_eq_true, not_true_eq_false, reduceCtorEq, Nat.reduceEqDiff, forall_eq, true_and, and_true, true_implies, forall_const, implies_true, List.mem_cons, List.not_mem_nil, or_false, false_or, or_self, if_true, if_false, reduceIte, Nat.reduceAdd, Nat.reduceMul, Nat.reduceLT, false_implies, Decidable.not_not, bI_eq0, bI_eq1, upd_at, updL_at, Nat.succ_ne_zero, Int32.reduceToNatClampNeg, eq_self, i01, i10]
  have e12 : jI (uI M 47 (188 + c) (nI w)) 12 = upd (jI S 12) c (nI w) := by simp only [jN_uI, jN_uJ, jN_uR, jK_uI, jK_uJ, jK_uR, jZ_uI, jZ_uJ, jZ_uR, jR_uI, jR_uJ, jr_uI, jr_uJ, jI_uJ, jI_uR, jJ_uI, jJ_uR, jI_uI_eq, jI_uI_ne, jJ_uJ_eq, jJ_uJ_ne, jSh_uI, jSh_uJ, jA_uI, jA_uJ, jA_uR, jI_uIf_eq, jI_uIf_ne, jJ_uIf, jR_uIf, jr_uIf, jZ_uIf, jSh_uIf, jA_uIf, ne_eq, not_false_eq_true, not_true_eq_false, reduceCtorEq, Nat.reduceEqDiff, forall_eq, true_and, and_true, true_implies, forall_const, implies_true, List.mem_cons, List.not_mem_nil, or_false, false_or, or_self, if_true, if_false, reduceIte, Nat.reduceAdd, Nat.reduceMul, Nat.reduceLT, false_implies, Decidable.not_not, bI_eq0, bI_eq1, upd_at, updL_at, Nat.succ_ne_zero, Int32.reduceToNatClampNeg, eq_self, i01, i10]; rw [hM.2.1.I 12 (by decide)]; simp only [jN_uI, jN_uJ, jN_uR, jK_uI, jK_uJ, jK_uR, jZ_uI, jZ_uJ, jZ_uR, jR_uI, jR_uJ, jr_uI, jr_uJ, jI_uJ, jI_uR, jJ_uI, jJ_uR, jI_uI_eq, jI_uI_ne, jJ_uJ_eq, jJ_uJ_ne, jSh_uI, jSh_uJ, jA_uI, jA_uJ, jA_uR, jI_uIf_eq, jI_uIf_ne, jJ_uIf, jR_uIf, jr_uIf, jZ_uIf, jSh_uIf, jA_uIf, ne_eq, not_false_eq_true, not_true_eq_false, reduceCtorEq, Nat.reduceEqDiff, forall_eq, true_and, and_true, true_implies, forall_const, implies_true, List.mem_cons, List.not_mem_nil, or_false, false_or, or_self, if_true, if_false, reduceIte, Nat.reduceAdd, Nat.reduceMul, Nat.reduceLT, false_implies, Decidable.not_not, bI_eq0, bI_eq1, upd_at, updL_at, Nat.succ_ne_zero, Int32.reduceToNatClampNeg, eq_self, i01, i10]
  have fX : jFr [45, 47, 58, 59] M (uI M 47 (188 + c) (nI w)) := (jFr.refl _ _).uI (by decide)
  have kX : jFk 45 [9, 10, 11, 12, 14, 15, 17, 20, 23, 24, 27, 30, 31, 32, 41] M (uI M 47 (188 + c) (nI w)) := (jFk.refl _ _ _).oI (by decide)
  generalize uI M 47 (188 + c) (nI w) = X at f er er2 e12 fX kX ⊢
  have e1 : jI X 1 = jI S 1 := f.I 1 (by decide)
  have j1 : jJ X 1 = jJ S 1 := f.J 1 (by decide)
  have g : pG X (jI X 47) := by
    refine ⟨fun d hd => ?_, fun d hd => ?_⟩
    · by_cases e : d = c
      · subst e; exact ⟨w, by omega, er2⟩
      · rw [er _ (by omega)]; exact q9.1 d hd
    · rw [e12, upd_at]
      by_cases e : d = c
      · subst e; rw [if_pos rfl, er2]
      · rw [if_neg e, er _ (by omega)]; exact q9.2 d hd
  have fin := hI.acc2 ((jFr.refl _ _).uI (by decide)) hM fX kX (MW_iff.mpr ⟨pR.c q1 (er 0 (by omega)) (by rw [e1]), pM.c q2 (er 1 (by omega)) (by rw [e1]), pU.c q3 (er 2 (by omega)) (by rw [e1]), pL.c q4 f (by decide) (fun k _ => er k (by omega)) (er 3 (by omega)) (er 4 (by omega)) (by rw [e1]) (by rw [e1]), pW.c q5 f (by decide) (er 0 (by omega)) (er 5 (by omega)) (fun k _ _ => er k (by omega)), pQ.c q6 f (by decide) (er 0 (by omega)) (er 6 (by omega)) (fun k _ _ => er k (by omega)), pT.c q7 (er 0 (by omega)) (er 7 (by omega)) (fun k _ _ => er k (by omega)) (by rw [e1]) (f.I 11 (by decide)), pS.c q8 (fun k _ _ => er k (by omega)) (by rw [j1]), g⟩) (hI.2.2.1.keep hI.2.1 (f.I 27 (by decide)) (f.I 28 (by decide)) (er 0 (by omega)) (er 1 (by omega)) (er 4 (by omega)) (er 5 (by omega)) (fun k _ _ => er k (by omega)) (fun j _ _ k _ _ => er k (by omega)))
  exact hq' _ fin.1 fin.2
