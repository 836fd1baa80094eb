/-! THE MODEL'S LIES -/
theorem nI_leB {a b : Nat} (ha : a ≤ 1000000) (hb : b ≤ 1000000) : nI a ≤ nI b ↔ a ≤ b := nI_leI (by omega) (by omega)
theorem nI_ltB {a b : Nat} (ha : a ≤ 1000000) (hb : b ≤ 1000000) : nI a < nI b ↔ a < b := nI_ltI (by omega) (by omega)
theorem nI_eqB {a b : Nat} (ha : a ≤ 1000000) (hb : b ≤ 1000000) : nI a = nI b ↔ a = b := nI_eq (by omega) (by omega)
theorem sX12_liesAt {S : JS} {Q : Int32 → JS → Prop} {n r : Nat} (hs : jSh S) (hm : MW S) (hn : n < 60) (hr : r < 9) (h : Q (nI (gLs (jI S 47) n r)) S) : wX12_liesAt 45 (nI n) (nI r) S Q := by
  obtain ⟨q, q1, q2, _, q4, q5⟩ := hm.rep
  unfold wX12_liesAt wX12_liesAt_4
  refine jLoop.cnt q (fun k s => s = (45, nI n, nI r, nI (gL (jI S 47) n r k), nI k, S)) 0 (by omega) ?_ rfl
  rintro k _ hk rfl
  unfold bX12_liesAt_4 wX12_liesAt_34 wX12_liesAt_45 wX12_liesAt_48 wX12_liesAt_49
  simp only [shA_45, shA_47, shZ_47, shR_45_2, shr_45_2, shR_45_3, shr_45_3, shR_45_4, shr_45_4, shR_45_5, shr_45_5, shR_45_7, shr_45_7, shR_45_16, shr_45_16, shR_45_18, shr_45_18, shR_45_19, shr_45_19, shR_45_21, shr_45_21, shR_45_22, shr_45_22, shR_45_25, shr_45_25, shR_45_26, shr_45_26, shR_45_28, shr_45_28, shR_45_29, shr_45_29, shR_45_33, shr_45_33, shR_45_34, shr_45_34, shR_45_35, shr_45_35, shR_45_36, shr_45_36, shR_45_37, shr_45_37, shR_45_38, shr_45_38, shR_45_39, shr_45_39, shR_45_40, shr_45_40, shR_45_42, shr_45_42, hs, q2, ne_eq, not_false_eq_true, not_true_eq_false, reduceCtorEq, Nat.reduceEqDiff, forall_eq, true_and, and_true, true_implies, forall_const, implies_true, List.mem_cons, List.not_mem_nil, or_false, false_or, or_self, if_true, if_false, reduceIte, Nat.reduceAdd, Nat.reduceMul, Nat.reduceLT, false_implies, Decidable.not_not, bI_eq0, bI_eq1, upd_at, updL_at, Nat.succ_ne_zero, Int32.reduceToNatClampNeg, eq_self, i01, i10]
  simp (disch := omega) only [li_0, li_1, li_2, li_3, li_4, li_5, li_6, li_7, li_8, li_9, li_10, li_11, li_12, li_13, li_14, li_15, li_16, li_17, li_18, li_19, li_20, li_21, li_22, li_23, li_24, li_25, li_26, li_27, li_31, li_32, li_45, li_47, li_48, li_50, li_57, li_58, li_59, li_60, li_63, li_64, li_68, li_69, li_70, li_80, li_90, li_91, li_93, li_96, li_97, li_98, li_99, li_100, li_122, li_140, li_141, li_142, li_188, li_200, li_255, li_400, li_511, li_512, li_900, li_1000, li_4320, li_4608, li_5600, li_1000000, nI_add, nI_mul, nI_le', nI_lt', nI_eq', nI_tn, nI_inT, nI_sub, nI_eqm1, nI_ltm, ne_eq, not_false_eq_true, not_true_eq_false, reduceCtorEq, Nat.reduceEqDiff, forall_eq, true_and, and_true, true_implies, forall_const, implies_true, List.mem_cons, List.not_mem_nil, or_false, false_or, or_self, if_true, if_false, reduceIte, Nat.reduceAdd, Nat.reduceMul, Nat.reduceLT, false_implies, Decidable.not_not, bI_eq0, bI_eq1, upd_at, updL_at, Nat.succ_ne_zero, Int32.reduceToNatClampNeg, eq_self, i01, i10]
  refine ⟨fun z => ?_, fun z => ?_⟩
  · rw [gLs, q4, ← show k = q by omega] at h; exact h
  · obtain ⟨a, m, b, a1, m1, b1, e1, e2, e3, _⟩ := q5 k (by omega)
    rw [e1, e2, e3]
    have hR := hm.1.1.2.1
    have st : gL (jI S 47) n r (k + 1) = gL (jI S 47) n r k + if m = n ∧ ¬ (a = r ↔ b = 1) then 1 else 0 := by
      rw [gL, e1, e2, e3]
      simp (disch := omega) only [nI_eq', li_1]
    rw [st]
    simp (disch := omega) only [nI_eq', ne_eq, not_false_eq_true, not_true_eq_false, reduceCtorEq, Nat.reduceEqDiff, forall_eq, true_and, and_true, true_implies, forall_const, implies_true, List.mem_cons, List.not_mem_nil, or_false, false_or, or_self, if_true, if_false, reduceIte, Nat.reduceAdd, Nat.reduceMul, Nat.reduceLT, false_implies, Decidable.not_not, bI_eq0, bI_eq1, upd_at, updL_at, Nat.succ_ne_zero, Int32.reduceToNatClampNeg, eq_self, i01, i10]
    refine ⟨fun z2 => ⟨by omega, ?_⟩, fun z2 => ⟨fun z3 => ⟨fun z4 => ⟨by omega, ?_⟩, fun z4 => ⟨by omega, ?_⟩⟩, fun z3 => ⟨fun z4 => ⟨by omega, ?_⟩, fun z4 => ⟨by omega, ?_⟩⟩⟩⟩
    · rw [if_neg (by omega)]
    · rw [if_neg (by omega)]
    · rw [if_pos (by omega)]
    · rw [if_pos (by omega)]
    · rw [if_neg (by omega)]
def tlOk (S : JS) (m : Nat) : Prop := ∀ n r, n < m → r < gR (jI S 47) → jI S 61 (9 * n + r) = nI (gTl (jI S 47) n r)
def onOk (S : JS) (m : Nat) : Prop := ∀ n r, m ≤ n → n < 60 → r < gR (jI S 47) → jI S 62 (9 * n + r) = nI (gD (jI S 47) (59 - n) r) ∧ jJ S 63 (9 * n + r) = lN (gW (jI S 47) (59 - n) r)
theorem nxOk.fr {S S' : JS} {H : List Nat} {m : Nat} (f : jFr H S S') (hd : ∀ x ∈ [47, 60], x ∉ H) (q : nxOk S m) : nxOk S' m := by
  unfold nxOk at q ⊢
  rw [f.I 47 (hd 47 (by decide)), f.I 60 (hd 60 (by decide))]; exact q
theorem tlOk.fr {S S' : JS} {H : List Nat} {m : Nat} (f : jFr H S S') (hd : ∀ x ∈ [47, 61], x ∉ H) (q : tlOk S m) : tlOk S' m := by
  unfold tlOk at q ⊢
  rw [f.I 47 (hd 47 (by decide)), f.I 61 (hd 61 (by decide))]; exact q
theorem onOk.fr {S S' : JS} {H : List Nat} {m : Nat} (f : jFr H S S') (hd : ∀ x ∈ [47, 62, 63], x ∉ H) (q : onOk S m) : onOk S' m := by
  unfold onOk at q ⊢
  rw [f.I 47 (hd 47 (by decide)), f.I 62 (hd 62 (by decide)), f.J 63 (hd 63 (by decide))]; exact q
theorem rk_of {S S1 : JS} {H : List Nat} {Q : Int32 → JS → Prop} (hs : jSh S) (hm : MW S) (f1 : jFr H S S1) (hd : 47 ∉ H) (hq : Q (nI (gR (jI S 47))) S1) : wX12_rocks 45 S1 Q := by
  obtain ⟨R1, R2, R3⟩ := hm.1.1
  refine sX12_rocks (f1.sh.mpr hs) ?_
  rw [f1.I 47 hd, R3]; exact hq
theorem fl_till {S : JS} {Q : JS → Prop} (hs : jSh S) (hm : MW S) (hx : nxOk S 59) (h : ∀ S', jFr [61] S S' → tlOk S' 60 → wX12_findLies_89 45 59 S' Q) : wX12_findLies_4 45 0 S Q := by
  obtain ⟨R1, R2, R3⟩ := hm.1.1
  unfold wX12_findLies_4
  refine jLoop.cnt 60 (fun n q => ∃ S', q = (45, nI n, S') ∧ jFr [61] S S' ∧ tlOk S' n) 0 (by omega) ?_ ⟨S, rfl, jFr.refl _ _, fun n r q => absurd q (Nat.not_lt_zero _)⟩
  rintro n _ hn ⟨S1, rfl, f1, t1⟩
  unfold bX12_findLies_4
  simp only
  rw [li_59, nI_lt' (by omega) (by omega)]
  refine ⟨fun q => h S1 f1 (by rw [← show n = 60 by omega]; exact t1), fun q => ?_⟩
  unfold wX12_findLies_9
  refine jLoop.cnt (gR (jI S 47)) (fun r q => ∃ S', q = (45, nI n, nI r, S') ∧ jFr [61] S S' ∧ tlOk S' n ∧ ∀ b, b < r → jI S' 61 (9 * n + b) = nI (gTl (jI S 47) n b)) 0 (by omega) ?_ ⟨S1, rfl, f1, t1, fun b q => absurd q (Nat.not_lt_zero _)⟩
  rintro r _ hr ⟨S2, rfl, f2, t2, u2⟩
  have hs2 : jSh S2 := f2.sh.mpr hs
  have hm2 : MW S2 := hm.fr f2 (by decide) (by decide)
  have e47 : jI S2 47 = jI S 47 := f2.I 47 (by decide)
  unfold bX12_findLies_9
  refine ⟨shA_45 hs2, rk_of hs hm f2 (by decide) ?_⟩
  rw [nI_le' (by omega) (by omega)]
  refine ⟨fun q2 => nm_r (nI_1 n) ⟨by omega, S2, rfl, f2, fun m b m1 b1 => ?_⟩, fun q2 => ?_⟩
  · rw [e47] at b1 ⊢
    by_cases e : m = n
    · subst e; exact u2 b (by omega)
    · have := t2 m b (by omega) (by rw [e47]; exact b1); rw [e47] at this; exact this
  have fin : ∀ v, v + nI (gLs (jI S 47) n r) = nI (gTl (jI S 47) n r) → ∀ X4, wX12_findLies_69 X4 (fun l0 l1 l2 S_1 => r < gR (jI S 47) ∧ ∃ S', (l0, l1, l2, S_1) = (45, nI n, nI (r + 1), S') ∧ jFr [61] S S' ∧ tlOk S' n ∧ ∀ b, b < r + 1 → jI S' 61 (9 * n + b) = nI (gTl (jI S 47) n b)) 45 (nI n) (nI r) v S2 Q := by
    intro v hv X4
    unfold wX12_findLies_69
    simp only [shA_45, shR_45_2, shr_45_2, shR_45_3, shr_45_3, shR_45_4, shr_45_4, shR_45_5, shr_45_5, shR_45_7, shr_45_7, shR_45_16, shr_45_16, shR_45_18, shr_45_18, shR_45_19, shr_45_19, shR_45_21, shr_45_21, shR_45_22, shr_45_22, shR_45_25, shr_45_25, shR_45_26, shr_45_26, shR_45_28, shr_45_28, shR_45_29, shr_45_29, shR_45_33, shr_45_33, shR_45_34, shr_45_34, shR_45_35, shr_45_35, shR_45_36, shr_45_36, shR_45_37, shr_45_37, shR_45_38, shr_45_38, shR_45_39, shr_45_39, shR_45_40, shr_45_40, shR_45_42, shr_45_42, hs2, ne_eq, not_false_eq_true, not_true_eq_false, reduceCtorEq, Nat.reduceEqDiff, forall_eq, true_and, and_true, true_implies, forall_const, implies_true, List.mem_cons, List.not_mem_nil, or_false, false_or, or_self, if_true, if_false, reduceIte, Nat.reduceAdd, Nat.reduceMul, Nat.reduceLT, false_implies, Decidable.not_not, bI_eq0, bI_eq1, upd_at, updL_at, Nat.succ_ne_zero, Int32.reduceToNatClampNeg, eq_self, i01, i10]
    refine sX12_liesAt hs2 hm2 (by omega) (by omega) ?_
    simp only [shA_61, shZ_61, hs2, e47, hv, ne_eq, not_false_eq_true, not_true_eq_false, reduceCtorEq, Nat.reduceEqDiff, forall_eq, true_and, and_true, true_implies, forall_const, implies_true, List.mem_cons, List.not_mem_nil, or_false, false_or, or_self, if_true, if_false, reduceIte, Nat.reduceAdd, Nat.reduceMul, Nat.reduceLT, false_implies, Decidable.not_not, bI_eq0, bI_eq1, upd_at, updL_at, Nat.succ_ne_zero, Int32.reduceToNatClampNeg, eq_self, i01, i10]
    simp (disch := omega) only [li_9, li_1, nI_add, nI_mul, nI_inT, nI_tn, ne_eq, not_false_eq_true, not_true_eq_false, reduceCtorEq, Nat.reduceEqDiff, forall_eq, true_and, and_true, true_implies, forall_const, implies_true, List.mem_cons, List.not_mem_nil, or_false, false_or, or_self, if_true, if_false, reduceIte, Nat.reduceAdd, Nat.reduceMul, Nat.reduceLT, false_implies, Decidable.not_not, bI_eq0, bI_eq1, upd_at, updL_at, Nat.succ_ne_zero, Int32.reduceToNatClampNeg, eq_self, i01, i10]
    refine ⟨by omega, _, rfl, f2.uI (by decide), fun m b m1 b1 => ?_, fun b hb => ?_⟩
    · simp only [jN_uI, jN_uJ, jN_uR, jK_uI, jK_uJ, jK_uR, jZ_uI, jZ_uJ, jZ_uR, jR_uI, jR_uJ, jr_uI, jr_uJ, jI_uJ, jI_uR, jJ_uI, jJ_uR, jI_uI_eq, jI_uI_ne, jJ_uJ_eq, jJ_uJ_ne, jSh_uI, jSh_uJ, jA_uI, jA_uJ, jA_uR, jI_uIf_eq, jI_uIf_ne, jJ_uIf, jR_uIf, jr_uIf, jZ_uIf, jSh_uIf, jA_uIf, ne_eq, not_false_eq_true, not_true_eq_false, reduceCtorEq, Nat.reduceEqDiff, forall_eq, true_and, and_true, true_implies, forall_const, implies_true, List.mem_cons, List.not_mem_nil, or_false, false_or, or_self, if_true, if_false, reduceIte, Nat.reduceAdd, Nat.reduceMul, Nat.reduceLT, false_implies, Decidable.not_not, bI_eq0, bI_eq1, upd_at, updL_at, Nat.succ_ne_zero, Int32.reduceToNatClampNeg, eq_self, i01, i10, e47] at b1 ⊢
      rw [if_neg (by omega)]
      have := t2 m b m1 (by rw [e47]; exact b1); rw [e47] at this; exact this
    · simp only [jN_uI, jN_uJ, jN_uR, jK_uI, jK_uJ, jK_uR, jZ_uI, jZ_uJ, jZ_uR, jR_uI, jR_uJ, jr_uI, jr_uJ, jI_uJ, jI_uR, jJ_uI, jJ_uR, jI_uI_eq, jI_uI_ne, jJ_uJ_eq, jJ_uJ_ne, jSh_uI, jSh_uJ, jA_uI, jA_uJ, jA_uR, jI_uIf_eq, jI_uIf_ne, jJ_uIf, jR_uIf, jr_uIf, jZ_uIf, jSh_uIf, jA_uIf, ne_eq, not_false_eq_true, not_true_eq_false, reduceCtorEq, Nat.reduceEqDiff, forall_eq, true_and, and_true, true_implies, forall_const, implies_true, List.mem_cons, List.not_mem_nil, or_false, false_or, or_self, if_true, if_false, reduceIte, Nat.reduceAdd, Nat.reduceMul, Nat.reduceLT, false_implies, Decidable.not_not, bI_eq0, bI_eq1, upd_at, updL_at, Nat.succ_ne_zero, Int32.reduceToNatClampNeg, eq_self, i01, i10]
      by_cases e : b = r
      · subst e; rw [if_pos rfl]
      · rw [if_neg (by omega)]; exact u2 b (by omega)
  unfold wX12_findLies_18
  simp (disch := omega) only [li_0, nI_eq']
  rcases Nat.eq_zero_or_pos n with n0 | n0
  · subst n0
    refine ⟨fun q => absurd rfl q, fun _ => ?_⟩
    unfold wX12_findLies_21
    refine jLoop.roll ?_
    unfold bX12_findLies_21
    refine ⟨shA_45 hs2, rk_of hs hm f2 (by decide) ?_⟩
    exact ⟨fun _ => fin _ (by rw [gTl, nI_add, Nat.zero_add]) _, fun _ => ⟨fun _ => fin _ (by rw [gTl, nI_add, Nat.zero_add]) _, fun z => absurd (show nI 0 ≤ 0 by decide) z⟩⟩
  · obtain ⟨k, rfl⟩ : ∃ k, n = k + 1 := ⟨n - 1, by omega⟩
    refine ⟨fun _ => ?_, fun q => by omega⟩
    unfold wX12_findLies_21
    refine jLoop.cnt (gR (jI S 47)) (fun c q => q = (45, nI (k + 1), nI r, nI (mn (fun p => gSt (jI S 47) k p r) (gTl (jI S 47) k) c), nI c, S2)) 0 (by omega) ?_ rfl
    rintro c _ hc rfl
    unfold bX12_findLies_21 wX12_findLies_65 wX12_findLies_66
    have mt := mn_top (fun p => gSt (jI S 47) k p r) (gTl (jI S 47) k) c
    refine ⟨shA_45 hs2, rk_of hs hm f2 (by decide) ?_⟩
    rw [nI_le' (by omega) (by omega)]
    refine ⟨fun z => fin _ ?_ _, fun z => ⟨fun z2 => ?_, fun z2 => ?_⟩⟩
    · rw [gTl, nI_add, show c = gR (jI S 47) by omega]
    · rw [li_0, nI_le' (by omega) (by omega)] at z2; omega
    · have hb := gTl_b hm.1 k c (by omega)
      have ht : jI S2 61 (9 * k + c) = nI (gTl (jI S 47) k c) := by
        have := t2 k c (by omega) (by rw [e47]; omega); rw [e47] at this; exact this
      have hxx := hx k c (by omega) (by omega)
      simp only [shA_45, shA_60, shZ_60, shA_61, shZ_61, shR_45_2, shr_45_2, shR_45_3, shr_45_3, shR_45_4, shr_45_4, shR_45_5, shr_45_5, shR_45_7, shr_45_7, shR_45_16, shr_45_16, shR_45_18, shr_45_18, shR_45_19, shr_45_19, shR_45_21, shr_45_21, shR_45_22, shr_45_22, shR_45_25, shr_45_25, shR_45_26, shr_45_26, shR_45_28, shr_45_28, shR_45_29, shr_45_29, shR_45_33, shr_45_33, shR_45_34, shr_45_34, shR_45_35, shr_45_35, shR_45_36, shr_45_36, shR_45_37, shr_45_37, shR_45_38, shr_45_38, shR_45_39, shr_45_39, shR_45_40, shr_45_40, shR_45_42, shr_45_42, hs2, f2.I 60 (by decide), ne_eq, not_false_eq_true, not_true_eq_false, reduceCtorEq, Nat.reduceEqDiff, forall_eq, true_and, and_true, true_implies, forall_const, implies_true, List.mem_cons, List.not_mem_nil, or_false, false_or, or_self, if_true, if_false, reduceIte, Nat.reduceAdd, Nat.reduceMul, Nat.reduceLT, false_implies, Decidable.not_not, bI_eq0, bI_eq1, upd_at, updL_at, Nat.succ_ne_zero, Int32.reduceToNatClampNeg, eq_self, i01, i10]
      simp (disch := omega) only [li_9, li_1, nI_add, nI_mul, nI_sub, nI_inT, nI_tn, ne_eq, not_false_eq_true, not_true_eq_false, reduceCtorEq, Nat.reduceEqDiff, forall_eq, true_and, and_true, true_implies, forall_const, implies_true, List.mem_cons, List.not_mem_nil, or_false, false_or, or_self, if_true, if_false, reduceIte, Nat.reduceAdd, Nat.reduceMul, Nat.reduceLT, false_implies, Decidable.not_not, bI_eq0, bI_eq1, upd_at, updL_at, Nat.succ_ne_zero, Int32.reduceToNatClampNeg, eq_self, i01, i10]
      rw [show 9 * (k + 1) - 9 + c = 9 * k + c by omega]
      refine sX12_is (by omega) (fun hb2 => ?_) (fun hb2 => ?_)
      · have hg := (hxx r (by omega)).mp hb2
        simp only [shA_45, shA_60, shZ_60, shA_61, shZ_61, shR_45_2, shr_45_2, shR_45_3, shr_45_3, shR_45_4, shr_45_4, shR_45_5, shr_45_5, shR_45_7, shr_45_7, shR_45_16, shr_45_16, shR_45_18, shr_45_18, shR_45_19, shr_45_19, shR_45_21, shr_45_21, shR_45_22, shr_45_22, shR_45_25, shr_45_25, shR_45_26, shr_45_26, shR_45_28, shr_45_28, shR_45_29, shr_45_29, shR_45_33, shr_45_33, shR_45_34, shr_45_34, shR_45_35, shr_45_35, shR_45_36, shr_45_36, shR_45_37, shr_45_37, shR_45_38, shr_45_38, shR_45_39, shr_45_39, shR_45_40, shr_45_40, shR_45_42, shr_45_42, hs2, ht, ne_eq, not_false_eq_true, not_true_eq_false, reduceCtorEq, Nat.reduceEqDiff, forall_eq, true_and, and_true, true_implies, forall_const, implies_true, List.mem_cons, List.not_mem_nil, or_false, false_or, or_self, if_true, if_false, reduceIte, Nat.reduceAdd, Nat.reduceMul, Nat.reduceLT, false_implies, Decidable.not_not, bI_eq0, bI_eq1, upd_at, updL_at, Nat.succ_ne_zero, Int32.reduceToNatClampNeg, eq_self, i01, i10]
        simp (disch := omega) only [nI_inT, nI_leB, ne_eq, not_false_eq_true, not_true_eq_false, reduceCtorEq, Nat.reduceEqDiff, forall_eq, true_and, and_true, true_implies, forall_const, implies_true, List.mem_cons, List.not_mem_nil, or_false, false_or, or_self, if_true, if_false, reduceIte, Nat.reduceAdd, Nat.reduceMul, Nat.reduceLT, false_implies, Decidable.not_not, bI_eq0, bI_eq1, upd_at, updL_at, Nat.succ_ne_zero, Int32.reduceToNatClampNeg, eq_self, i01, i10]
        refine ⟨fun z3 => ⟨by omega, ?_⟩, fun z3 => ⟨by omega, ?_⟩⟩
        · rw [mn, pick_f (by omega)]
        · rw [mn, pick_t ⟨hg, by omega⟩]
      · simp only [ne_eq, not_false_eq_true, not_true_eq_false, reduceCtorEq, Nat.reduceEqDiff, forall_eq, true_and, and_true, true_implies, forall_const, implies_true, List.mem_cons, List.not_mem_nil, or_false, false_or, or_self, if_true, if_false, reduceIte, Nat.reduceAdd, Nat.reduceMul, Nat.reduceLT, false_implies, Decidable.not_not, bI_eq0, bI_eq1, upd_at, updL_at, Nat.succ_ne_zero, Int32.reduceToNatClampNeg, eq_self, i01, i10]
        refine ⟨by omega, ?_⟩
        rw [mn, pick_f (fun y => hb2 ((hxx r (by omega)).mpr y.1))]
theorem fl_on {S : JS} {Q : JS → Prop} (hs : jSh S) (hm : MW S) (hx : nxOk S 59) (h : ∀ S', jFr [62, 63] S S' → onOk S' 0 → Q S') : wX12_findLies_89 45 59 S Q := by
  obtain ⟨R1, R2, R3⟩ := hm.1.1
  unfold wX12_findLies_89
  refine jLoop.cnt 60 (fun j q => ∃ S', q = (45, nI (60 - j) - 1, S') ∧ jFr [62, 63] S S' ∧ onOk S' (60 - j)) 0 (by omega) ?_ ⟨S, rfl, jFr.refl _ _, fun n r q1 q2 => by omega⟩
  rintro j _ hj ⟨S1, rfl, f1, t1⟩
  unfold bX12_findLies_89
  simp only
  rcases Nat.eq_zero_or_pos (60 - j) with z | z
  · rw [z] at t1 ⊢
    exact ⟨fun _ => h S1 f1 t1, fun q => absurd (show nI 0 - 1 < 0 by decide) q⟩
  obtain ⟨n, hn0⟩ : ∃ n, 60 - j = n + 1 := ⟨60 - j - 1, by omega⟩
  have hn1 : 60 - (j + 1) = n := by omega
  rw [hn0] at t1 ⊢
  rw [hn1, nI_m1 (by omega), show n + 1 - 1 = n by omega]
  refine ⟨fun q => absurd q (nI_pos (by omega)), fun _ => ?_⟩
  unfold wX12_findLies_93
  refine jLoop.cnt (gR (jI S 47)) (fun r q => ∃ S', q = (45, nI n, nI r, S') ∧ jFr [62, 63] S S' ∧ onOk S' (n + 1) ∧ ∀ b, b < r → jI S' 62 (9 * n + b) = nI (gD (jI S 47) (59 - n) b) ∧ jJ S' 63 (9 * n + b) = lN (gW (jI S 47) (59 - n) b)) 0 (by omega) ?_ ⟨S1, rfl, f1, t1, fun b q => absurd q (Nat.not_lt_zero _)⟩
  rintro r _ hr ⟨S2, rfl, f2, t2, u2⟩
  have hs2 : jSh S2 := f2.sh.mpr hs
  have hm2 : MW S2 := hm.fr f2 (by decide) (by decide)
  have e47 : jI S2 47 = jI S 47 := f2.I 47 (by decide)
  unfold bX12_findLies_93
  refine ⟨shA_45 hs2, rk_of hs hm f2 (by decide) ?_⟩
  rw [nI_le' (by omega) (by omega)]
  refine ⟨fun q2 => nm_r (e' := nI n - 1) (by lia) ⟨by omega, S2, rfl, f2, fun m b m1 m2 b1 => ?_⟩, fun q2 => ?_⟩
  · rw [e47] at b1 ⊢
    by_cases e : m = n
    · subst e; exact u2 b (by omega)
    · have := t2 m b (by omega) m2 (by rw [e47]; exact b1); rw [e47] at this; exact this
  have fin : ∀ v (w : Nat), v + nI (gLs (jI S 47) n r) = nI (gD (jI S 47) (59 - n) r) → w < 9000000000000000 → min 1000000000000 w = gW (jI S 47) (59 - n) r → ∀ X4, wX12_findLies_183 X4 (fun l0 l1 l2 S_1 => r < gR (jI S 47) ∧ ∃ S', (l0, l1, l2, S_1) = (45, nI n, nI (r + 1), S') ∧ jFr [62, 63] S S' ∧ onOk S' (n + 1) ∧ ∀ b, b < r + 1 → jI S' 62 (9 * n + b) = nI (gD (jI S 47) (59 - n) b) ∧ jJ S' 63 (9 * n + b) = lN (gW (jI S 47) (59 - n) b)) 45 (nI n) (nI r) v (lN w) S2 Q := by
    intro v w hv hw hw2 X4
    have fin2 : ∀ w', w' = gW (jI S 47) (59 - n) r → wX12_findLies_211 X4 (fun l0 l1 l2 S_1 => r < gR (jI S 47) ∧ ∃ S', (l0, l1, l2, S_1) = (45, nI n, nI (r + 1), S') ∧ jFr [62, 63] S S' ∧ onOk S' (n + 1) ∧ ∀ b, b < r + 1 → jI S' 62 (9 * n + b) = nI (gD (jI S 47) (59 - n) b) ∧ jJ S' 63 (9 * n + b) = lN (gW (jI S 47) (59 - n) b)) 45 (nI n) (nI r) (lN w') (nI (9 * n + r)) 63 (uI S2 62 (9 * n + r) (nI (gD (jI S 47) (59 - n) r))) Q := by
      intro w' hw'
      unfold wX12_findLies_211
      simp only [shA_63, shZ_63, hs2, jN_uI, jN_uJ, jN_uR, jK_uI, jK_uJ, jK_uR, jZ_uI, jZ_uJ, jZ_uR, jR_uI, jR_uJ, jr_uI, jr_uJ, jI_uJ, jI_uR, jJ_uI, jJ_uR, jI_uI_eq, jI_uI_ne, jJ_uJ_eq, jJ_uJ_ne, jSh_uI, jSh_uJ, jA_uI, jA_uJ, jA_uR, jI_uIf_eq, jI_uIf_ne, jJ_uIf, jR_uIf, jr_uIf, jZ_uIf, jSh_uIf, jA_uIf, ne_eq, not_false_eq_true, not_true_eq_false, reduceCtorEq, Nat.reduceEqDiff, forall_eq, true_and, and_true, true_implies, forall_const, implies_true, List.mem_cons, List.not_mem_nil, or_false, false_or, or_self, if_true, if_false, reduceIte, Nat.reduceAdd, Nat.reduceMul, Nat.reduceLT, false_implies, Decidable.not_not, bI_eq0, bI_eq1, upd_at, updL_at, Nat.succ_ne_zero, Int32.reduceToNatClampNeg, eq_self, i01, i10]
      simp (disch := omega) only [li_1, nI_add, nI_inT, nI_tn, ne_eq, not_false_eq_true, not_true_eq_false, reduceCtorEq, Nat.reduceEqDiff, forall_eq, true_and, and_true, true_implies, forall_const, implies_true, List.mem_cons, List.not_mem_nil, or_false, false_or, or_self, if_true, if_false, reduceIte, Nat.reduceAdd, Nat.reduceMul, Nat.reduceLT, false_implies, Decidable.not_not, bI_eq0, bI_eq1, upd_at, updL_at, Nat.succ_ne_zero, Int32.reduceToNatClampNeg, eq_self, i01, i10]
      refine ⟨by omega, _, rfl, (f2.uI (by decide)).uJ (by decide), fun m b m1 m2 b1 => ?_, fun b hb => ?_⟩
      · simp only [jN_uI, jN_uJ, jN_uR, jK_uI, jK_uJ, jK_uR, jZ_uI, jZ_uJ, jZ_uR, jR_uI, jR_uJ, jr_uI, jr_uJ, jI_uJ, jI_uR, jJ_uI, jJ_uR, jI_uI_eq, jI_uI_ne, jJ_uJ_eq, jJ_uJ_ne, jSh_uI, jSh_uJ, jA_uI, jA_uJ, jA_uR, jI_uIf_eq, jI_uIf_ne, jJ_uIf, jR_uIf, jr_uIf, jZ_uIf, jSh_uIf, jA_uIf, ne_eq, not_false_eq_true, not_true_eq_false, reduceCtorEq, Nat.reduceEqDiff, forall_eq, true_and, and_true, true_implies, forall_const, implies_true, List.mem_cons, List.not_mem_nil, or_false, false_or, or_self, if_true, if_false, reduceIte, Nat.reduceAdd, Nat.reduceMul, Nat.reduceLT, false_implies, Decidable.not_not, bI_eq0, bI_eq1, upd_at, updL_at, Nat.succ_ne_zero, Int32.reduceToNatClampNeg, eq_self, i01, i10, e47] at b1 ⊢
        rw [if_neg (by omega), if_neg (by omega)]
        have := t2 m b m1 m2 (by rw [e47]; exact b1); rw [e47] at this; exact this
      · simp only [jN_uI, jN_uJ, jN_uR, jK_uI, jK_uJ, jK_uR, jZ_uI, jZ_uJ, jZ_uR, jR_uI, jR_uJ, jr_uI, jr_uJ, jI_uJ, jI_uR, jJ_uI, jJ_uR, jI_uI_eq, jI_uI_ne, jJ_uJ_eq, jJ_uJ_ne, jSh_uI, jSh_uJ, jA_uI, jA_uJ, jA_uR, jI_uIf_eq, jI_uIf_ne, jJ_uIf, jR_uIf, jr_uIf, jZ_uIf, jSh_uIf, jA_uIf, ne_eq, not_false_eq_true, not_true_eq_false, reduceCtorEq, Nat.reduceEqDiff, forall_eq, true_and, and_true, true_implies, forall_const, implies_true, List.mem_cons, List.not_mem_nil, or_false, false_or, or_self, if_true, if_false, reduceIte, Nat.reduceAdd, Nat.reduceMul, Nat.reduceLT, false_implies, Decidable.not_not, bI_eq0, bI_eq1, upd_at, updL_at, Nat.succ_ne_zero, Int32.reduceToNatClampNeg, eq_self, i01, i10]
        by_cases e : b = r
        · subst e; rw [if_pos rfl, if_pos rfl, hw']; exact ⟨rfl, rfl⟩
        · rw [if_neg (by omega), if_neg (by omega)]; exact u2 b (by omega)
    unfold wX12_findLies_183
    simp only [shA_45, shR_45_2, shr_45_2, shR_45_3, shr_45_3, shR_45_4, shr_45_4, shR_45_5, shr_45_5, shR_45_7, shr_45_7, shR_45_16, shr_45_16, shR_45_18, shr_45_18, shR_45_19, shr_45_19, shR_45_21, shr_45_21, shR_45_22, shr_45_22, shR_45_25, shr_45_25, shR_45_26, shr_45_26, shR_45_28, shr_45_28, shR_45_29, shr_45_29, shR_45_33, shr_45_33, shR_45_34, shr_45_34, shR_45_35, shr_45_35, shR_45_36, shr_45_36, shR_45_37, shr_45_37, shR_45_38, shr_45_38, shR_45_39, shr_45_39, shR_45_40, shr_45_40, shR_45_42, shr_45_42, hs2, ne_eq, not_false_eq_true, not_true_eq_false, reduceCtorEq, Nat.reduceEqDiff, forall_eq, true_and, and_true, true_implies, forall_const, implies_true, List.mem_cons, List.not_mem_nil, or_false, false_or, or_self, if_true, if_false, reduceIte, Nat.reduceAdd, Nat.reduceMul, Nat.reduceLT, false_implies, Decidable.not_not, bI_eq0, bI_eq1, upd_at, updL_at, Nat.succ_ne_zero, Int32.reduceToNatClampNeg, eq_self, i01, i10]
    refine sX12_liesAt hs2 hm2 (by omega) (by omega) ?_
    simp only [shA_45, shA_62, shZ_62, shR_45_2, shr_45_2, shR_45_3, shr_45_3, shR_45_4, shr_45_4, shR_45_5, shr_45_5, shR_45_7, shr_45_7, shR_45_16, shr_45_16, shR_45_18, shr_45_18, shR_45_19, shr_45_19, shR_45_21, shr_45_21, shR_45_22, shr_45_22, shR_45_25, shr_45_25, shR_45_26, shr_45_26, shR_45_28, shr_45_28, shR_45_29, shr_45_29, shR_45_33, shr_45_33, shR_45_34, shr_45_34, shR_45_35, shr_45_35, shR_45_36, shr_45_36, shR_45_37, shr_45_37, shR_45_38, shr_45_38, shR_45_39, shr_45_39, shR_45_40, shr_45_40, shR_45_42, shr_45_42, hs2, e47, hv, lg_cmp_le, lil, jN_uI, jN_uJ, jN_uR, jK_uI, jK_uJ, jK_uR, jZ_uI, jZ_uJ, jZ_uR, jR_uI, jR_uJ, jr_uI, jr_uJ, jI_uJ, jI_uR, jJ_uI, jJ_uR, jI_uI_eq, jI_uI_ne, jJ_uJ_eq, jJ_uJ_ne, jSh_uI, jSh_uJ, jA_uI, jA_uJ, jA_uR, jI_uIf_eq, jI_uIf_ne, jJ_uIf, jR_uIf, jr_uIf, jZ_uIf, jSh_uIf, jA_uIf, ne_eq, not_false_eq_true, not_true_eq_false, reduceCtorEq, Nat.reduceEqDiff, forall_eq, true_and, and_true, true_implies, forall_const, implies_true, List.mem_cons, List.not_mem_nil, or_false, false_or, or_self, if_true, if_false, reduceIte, Nat.reduceAdd, Nat.reduceMul, Nat.reduceLT, false_implies, Decidable.not_not, bI_eq0, bI_eq1, upd_at, updL_at, Nat.succ_ne_zero, Int32.reduceToNatClampNeg, eq_self, i01, i10]
    simp (disch := omega) only [li_9, nI_add, nI_mul, nI_inT, nI_tn, ne_eq, not_false_eq_true, not_true_eq_false, reduceCtorEq, Nat.reduceEqDiff, forall_eq, true_and, and_true, true_implies, forall_const, implies_true, List.mem_cons, List.not_mem_nil, or_false, false_or, or_self, if_true, if_false, reduceIte, Nat.reduceAdd, Nat.reduceMul, Nat.reduceLT, false_implies, Decidable.not_not, bI_eq0, bI_eq1, upd_at, updL_at, Nat.succ_ne_zero, Int32.reduceToNatClampNeg, eq_self, i01, i10]
    rw [lN_le' hw (by decide)]
    refine ⟨fun z => fin2 w (by omega), fun z => fin2 _ (by omega)⟩
  unfold wX12_findLies_103 wX12_findLies_110
  simp (disch := omega) only [li_59, nI_eq']
  rcases Nat.lt_or_ge n 59 with n0 | n0
  · obtain ⟨k, e1, e2, e3⟩ : ∃ k, 59 - n = k + 1 ∧ 59 - (n + 1) = k ∧ 58 - k = n := ⟨58 - n, by omega, by omega, by omega⟩
    refine ⟨fun _ => ⟨fun _ => ?_, fun q => by omega⟩, fun q => by omega⟩
    have gb : ∀ c, gws (gSt (jI S 47) n r) (gD (jI S 47) k) (gW (jI S 47) k) c ≤ c * 1000000000000 := fun c => gws_b (fun p _ _ => gW_b _ _ _)
    unfold wX12_findLies_113
    refine jLoop.cnt (gR (jI S 47)) (fun c q => q = (45, nI n, nI r, nI (mn (gSt (jI S 47) n r) (gD (jI S 47) k) c), lN (gws (gSt (jI S 47) n r) (gD (jI S 47) k) (gW (jI S 47) k) c), nI c, S2)) 0 (by omega) ?_ rfl
    rintro c _ hc rfl
    unfold bX12_findLies_113 wX12_findLies_173 wX12_findLies_180 wX12_findLies_181
    have mt := mn_top (gSt (jI S 47) n r) (gD (jI S 47) k) c
    refine ⟨shA_45 hs2, rk_of hs hm f2 (by decide) ?_⟩
    rw [nI_le' (by omega) (by omega), li_59, nI_le' (by omega) (by omega)]
    refine ⟨fun z => ?_, fun z => ⟨fun z2 => by omega, fun z2 => ?_⟩⟩
    · have := gb c
      refine fin _ _ ?_ (Nat.lt_of_le_of_lt this (Nat.lt_of_le_of_lt (Nat.mul_le_mul_right _ (show c ≤ 9 by omega)) (by decide))) ?_ _
      · rw [nI_add, e1, gD, e3, show c = gR (jI S 47) by omega]
      · rw [e1, gW, e3, show c = gR (jI S 47) by omega]
    · have hb := gD_16 hm.1 (k := k) (by omega) (show c < gR (jI S 47) by omega)
      have ht : jI S2 62 (9 * (n + 1) + c) = nI (gD (jI S 47) k c) ∧ jJ S2 63 (9 * (n + 1) + c) = lN (gW (jI S 47) k c) := by
        have := t2 (n + 1) c (by omega) (by omega) (by rw [e47]; omega); rw [e47, e2] at this; exact this
      have hxx := hx n r (by omega) (by omega)
      simp only [shA_45, shA_60, shZ_60, shR_45_2, shr_45_2, shR_45_3, shr_45_3, shR_45_4, shr_45_4, shR_45_5, shr_45_5, shR_45_7, shr_45_7, shR_45_16, shr_45_16, shR_45_18, shr_45_18, shR_45_19, shr_45_19, shR_45_21, shr_45_21, shR_45_22, shr_45_22, shR_45_25, shr_45_25, shR_45_26, shr_45_26, shR_45_28, shr_45_28, shR_45_29, shr_45_29, shR_45_33, shr_45_33, shR_45_34, shr_45_34, shR_45_35, shr_45_35, shR_45_36, shr_45_36, shR_45_37, shr_45_37, shR_45_38, shr_45_38, shR_45_39, shr_45_39, shR_45_40, shr_45_40, shR_45_42, shr_45_42, hs2, f2.I 60 (by decide), ne_eq, not_false_eq_true, not_true_eq_false, reduceCtorEq, Nat.reduceEqDiff, forall_eq, true_and, and_true, true_implies, forall_const, implies_true, List.mem_cons, List.not_mem_nil, or_false, false_or, or_self, if_true, if_false, reduceIte, Nat.reduceAdd, Nat.reduceMul, Nat.reduceLT, false_implies, Decidable.not_not, bI_eq0, bI_eq1, upd_at, updL_at, Nat.succ_ne_zero, Int32.reduceToNatClampNeg, eq_self, i01, i10]
      simp (disch := omega) only [li_9, li_1, nI_add, nI_mul, nI_inT, nI_tn, ne_eq, not_false_eq_true, not_true_eq_false, reduceCtorEq, Nat.reduceEqDiff, forall_eq, true_and, and_true, true_implies, forall_const, implies_true, List.mem_cons, List.not_mem_nil, or_false, false_or, or_self, if_true, if_false, reduceIte, Nat.reduceAdd, Nat.reduceMul, Nat.reduceLT, false_implies, Decidable.not_not, bI_eq0, bI_eq1, upd_at, updL_at, Nat.succ_ne_zero, Int32.reduceToNatClampNeg, eq_self, i01, i10]
      rw [show 9 * n + 9 + c = 9 * (n + 1) + c by omega]
      refine sX12_is (by omega) (fun hb2 => ?_) (fun hb2 => ?_)
      · have hg := (hxx c (by omega)).mp hb2
        simp only [shA_45, shA_62, shZ_62, shA_63, shZ_63, shR_45_2, shr_45_2, shR_45_3, shr_45_3, shR_45_4, shr_45_4, shR_45_5, shr_45_5, shR_45_7, shr_45_7, shR_45_16, shr_45_16, shR_45_18, shr_45_18, shR_45_19, shr_45_19, shR_45_21, shr_45_21, shR_45_22, shr_45_22, shR_45_25, shr_45_25, shR_45_26, shr_45_26, shR_45_28, shr_45_28, shR_45_29, shr_45_29, shR_45_33, shr_45_33, shR_45_34, shr_45_34, shR_45_35, shr_45_35, shR_45_36, shr_45_36, shR_45_37, shr_45_37, shR_45_38, shr_45_38, shR_45_39, shr_45_39, shR_45_40, shr_45_40, shR_45_42, shr_45_42, hs2, ht.1, ht.2, lN_add, ne_eq, not_false_eq_true, not_true_eq_false, reduceCtorEq, Nat.reduceEqDiff, forall_eq, true_and, and_true, true_implies, forall_const, implies_true, List.mem_cons, List.not_mem_nil, or_false, false_or, or_self, if_true, if_false, reduceIte, Nat.reduceAdd, Nat.reduceMul, Nat.reduceLT, false_implies, Decidable.not_not, bI_eq0, bI_eq1, upd_at, updL_at, Nat.succ_ne_zero, Int32.reduceToNatClampNeg, eq_self, i01, i10]
        simp (disch := omega) only [nI_inT, nI_leB, nI_eqB, ne_eq, not_false_eq_true, not_true_eq_false, reduceCtorEq, Nat.reduceEqDiff, forall_eq, true_and, and_true, true_implies, forall_const, implies_true, List.mem_cons, List.not_mem_nil, or_false, false_or, or_self, if_true, if_false, reduceIte, Nat.reduceAdd, Nat.reduceMul, Nat.reduceLT, false_implies, Decidable.not_not, bI_eq0, bI_eq1, upd_at, updL_at, Nat.succ_ne_zero, Int32.reduceToNatClampNeg, eq_self, i01, i10]
        refine ⟨fun z3 => ⟨fun z4 => ⟨fun z5 => ⟨by omega, ?_⟩, fun z5 => by omega⟩, fun z4 => ⟨fun z5 => ⟨by omega, ?_⟩, fun z5 => by omega⟩⟩, fun z3 => ⟨fun z5 => by omega, fun z5 => ⟨by omega, ?_⟩⟩⟩
        · rw [mn, pick_f (by omega), gws, pick_t hg, if_neg (by omega), if_neg (by omega)]
        · rw [mn, pick_f (by omega), gws, pick_t hg, if_neg (by omega), if_pos (by omega)]
        · rw [mn, pick_t ⟨hg, by omega⟩, gws, pick_t hg, if_pos (by omega)]
      · simp only [ne_eq, not_false_eq_true, not_true_eq_false, reduceCtorEq, Nat.reduceEqDiff, forall_eq, true_and, and_true, true_implies, forall_const, implies_true, List.mem_cons, List.not_mem_nil, or_false, false_or, or_self, if_true, if_false, reduceIte, Nat.reduceAdd, Nat.reduceMul, Nat.reduceLT, false_implies, Decidable.not_not, bI_eq0, bI_eq1, upd_at, updL_at, Nat.succ_ne_zero, Int32.reduceToNatClampNeg, eq_self, i01, i10]
        have hg : ¬ gSt (jI S 47) n r c := fun y => hb2 ((hxx c (by omega)).mpr y)
        refine ⟨by omega, ?_⟩
        rw [mn, pick_f (fun y => hg y.1), gws, pick_f hg]
  · have : n = 59 := by omega
    subst this
    refine ⟨fun q => absurd rfl q, fun _ => ⟨fun q => absurd rfl q, fun _ => ?_⟩⟩
    unfold wX12_findLies_113
    refine jLoop.roll ?_
    unfold bX12_findLies_113
    refine ⟨shA_45 hs2, rk_of hs hm f2 (by decide) ?_⟩
    have f0 := fin 0 1 (by rw [li_0, nI_add, Nat.zero_add]; rfl) (by decide) (by rfl)
    exact ⟨fun _ => f0 _, fun _ => ⟨fun _ => f0 _, fun z => absurd (show (59 : Int32) ≤ nI 59 by decide) z⟩⟩
theorem sX12_findLies {S : JS} {Q : JS → Prop} (hs : jSh S) (hm : MW S) (h : ∀ S', jFr [45, 58, 59, 60, 61, 62, 63] S S' → jFk 45 [27, 30, 31, 32] S S' → nxOk S' 59 → tlOk S' 60 → onOk S' 0 → Q S') : wX12_findLies 45 S Q := by
  unfold wX12_findLies
  refine ⟨shA_45 hs, sX12_layOut hs hm (fun S1 f1 k1 x1 => ?_)⟩
  have hs1 := f1.sh.mpr hs
  have hm1 : MW S1 := hm.fr f1 (by decide) (by decide)
  refine fl_till hs1 hm1 x1 (fun S2 f2 t2 => ?_)
  have hs2 := f2.sh.mpr hs1
  have hm2 : MW S2 := hm1.fr f2 (by decide) (by decide)
  have x2 := x1.fr f2 (by decide)
  refine fl_on hs2 hm2 x2 (fun S3 f3 o3 => ?_)
  exact h S3 (((f1.mono (by decide)).tr (f2.mono (by decide))).tr (f3.mono (by decide))) ((k1.tr (jFk.of f2 (by decide))).tr (jFk.of f3 (by decide))) (x2.fr f3 (by decide)) (t2.fr f3 (by decide)) o3
