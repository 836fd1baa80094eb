theorem q_reach {S : JS} {Q : Int32 → JS → Prop} {x y z : Int32} (hI : Inv S) (hq : ∀ r S1, Mdl (wX12_reach 45 x y z) S r S1 → Q r S1) : wX11_reach 0 x y z S Q := by
  have hs := hI.1
  have hm := hI.2.1
  have no : (¬ (0 ≤ x ∧ x < jI S 47 0) ∨ ¬ (0 ≤ y ∧ y ≤ 59) ∨ ¬ (0 ≤ z ∧ z < jI S 47 0)) → Q (-1) S := by
    intro hx
    refine hq _ _ ⟨hs, fun Q' hq' => ?_⟩
    unfold wX12_reach
    simp only [shA_45 hs, jN_uI, jN_uJ, jN_uR, jK_uI, jK_uJ, jK_uR, jZ_uI, jZ_uJ, jZ_uR, jR_uI, jR_uJ, jr_uI, jr_uJ, jI_uJ, jI_uR, jJ_uI, jJ_uR, jI_uI_eq, jI_uI_ne, jJ_uJ_eq, jJ_uJ_ne, jSh_uI, jSh_uJ, jA_uI, jA_uJ, jA_uR, jI_uIf_eq, jI_uIf_ne, jJ_uIf, jR_uIf, jr_uIf, jZ_uIf, jSh_uIf, jA_uIf, ne_eq, not_false_eq_true, not_true_eq_false, reduceCtorEq, Nat.reduceEqDiff, forall_eq, true_and, and_true, true_implies, forall_const, implies_true, List.mem_cons, List.not_mem_nil, or_false, false_or, or_self, if_true, if_false, reduceIte, Nat.reduceAdd, Nat.reduceMul, Nat.reduceLT, false_implies, Decidable.not_not, bI_eq0, bI_eq1, upd_at, updL_at, Nat.succ_ne_zero, Int32.reduceToNatClampNeg, eq_self, i01, i10]
    have hI0 := hI.t0
    have fin := hq' _ hI0 (Nat.le_add_right _ _)
    refine sX12_isRock hI0.1 hI0.2.1 (fun a ha ea => ⟨fun q => absurd q (by decide), fun _ => ⟨shA_45 hs, ?_⟩⟩) (fun _ => ⟨fun _ => fin, fun q => absurd rfl q⟩)
    refine sX12_isRock hI0.1 hI0.2.1 (fun b hb eb => ⟨fun q => absurd q (by decide), fun _ => ?_⟩) (fun _ => ⟨fun _ => fin, fun q => absurd rfl q⟩)
    refine sX12_isNight (fun n hn en => ?_) (fun _ => ⟨fun q => absurd rfl q, fun _ => fin⟩)
    rcases hx with hx | hx | hx
    · exact absurd (by rw [ea]; exact rock_of hm.1 ha) hx
    · exact absurd (en ▸ ex59 hn) hx
    · exact absurd (by rw [eb]; exact rock_of hm.1 hb) hx
  unfold wX11_reach
  simp only [shA_0, shA_1, shR_0_0, shr_0_0, shR_0_1, shr_0_1, shR_0_2, shr_0_2, shR_0_3, shr_0_3, shR_0_4, shr_0_4, shR_0_5, shr_0_5, shR_0_6, shr_0_6, shR_0_7, shr_0_7, shR_0_8, shr_0_8, shR_0_9, shr_0_9, shR_1_4, shr_1_4, shR_1_5, shr_1_5, shR_1_6, shr_1_6, shR_1_9, shr_1_9, shR_1_11, shr_1_11, hs, ne_eq, not_false_eq_true, not_true_eq_false, reduceCtorEq, Nat.reduceEqDiff, forall_eq, true_and, and_true, true_implies, forall_const, implies_true, List.mem_cons, List.not_mem_nil, or_false, false_or, or_self, if_true, if_false, reduceIte, Nat.reduceAdd, Nat.reduceMul, Nat.reduceLT, false_implies, Decidable.not_not, bI_eq0, bI_eq1, upd_at, updL_at, Nat.succ_ne_zero, Int32.reduceToNatClampNeg, eq_self, i01, i10]
  refine sX9_hasRock' hs hm (fun a ha ea => ⟨fun q => absurd q (by decide), fun _ => ?_⟩) (fun hx => ⟨fun _ => no (Or.inl hx), fun q => absurd rfl q⟩)
  refine sX11_isNight (fun n hn en => ⟨fun q => absurd q (by decide), fun _ => ?_⟩) (fun hx => ⟨fun _ => no (Or.inr (Or.inl hx)), fun q => absurd rfl q⟩)
  simp only [shA_0, shA_1, shR_0_0, shr_0_0, shR_0_1, shr_0_1, shR_0_2, shr_0_2, shR_0_3, shr_0_3, shR_0_4, shr_0_4, shR_0_5, shr_0_5, shR_0_6, shr_0_6, shR_0_7, shr_0_7, shR_0_8, shr_0_8, shR_0_9, shr_0_9, shR_1_4, shr_1_4, shR_1_5, shr_1_5, shR_1_6, shr_1_6, shR_1_9, shr_1_9, shR_1_11, shr_1_11, hs, ne_eq, not_false_eq_true, not_true_eq_false, reduceCtorEq, Nat.reduceEqDiff, forall_eq, true_and, and_true, true_implies, forall_const, implies_true, List.mem_cons, List.not_mem_nil, or_false, false_or, or_self, if_true, if_false, reduceIte, Nat.reduceAdd, Nat.reduceMul, Nat.reduceLT, false_implies, Decidable.not_not, bI_eq0, bI_eq1, upd_at, updL_at, Nat.succ_ne_zero, Int32.reduceToNatClampNeg, eq_self, i01, i10]
  refine sX9_hasRock' hs hm (fun b hb eb => ⟨fun _ => ?_, fun q => absurd q (by decide)⟩) (fun hx => ⟨fun q => absurd rfl q, fun _ => no (Or.inr (Or.inr hx))⟩)
  subst ea en eb
  have hR := hm.1.1.2.1
  simp only [shA_0, shA_1, shA_23, shR_0_0, shr_0_0, shR_0_1, shr_0_1, shR_0_2, shr_0_2, shR_0_3, shr_0_3, shR_0_4, shr_0_4, shR_0_5, shr_0_5, shR_0_6, shr_0_6, shR_0_7, shr_0_7, shR_0_8, shr_0_8, shR_0_9, shr_0_9, shR_1_4, shr_1_4, shR_1_5, shr_1_5, shR_1_6, shr_1_6, shR_1_9, shr_1_9, shR_1_11, shr_1_11, shR_23_0, shr_23_0, shR_23_1, shr_23_1, shR_23_2, shr_23_2, hs, ne_eq, not_false_eq_true, not_true_eq_false, reduceCtorEq, Nat.reduceEqDiff, forall_eq, true_and, and_true, true_implies, forall_const, implies_true, List.mem_cons, List.not_mem_nil, or_false, false_or, or_self, if_true, if_false, reduceIte, Nat.reduceAdd, Nat.reduceMul, Nat.reduceLT, false_implies, Decidable.not_not, bI_eq0, bI_eq1, upd_at, updL_at, Nat.succ_ne_zero, Int32.reduceToNatClampNeg, eq_self, i01, i10]
  refine sX1_learnAll (b := 59) hs hm hI.2.2.1 hn (by omega) (fun S1 f1 B1 s1 => ?_)
  have hs1 := f1.sh.mpr hs
  have hm1 : MW S1 := hm.fr f1 (by decide) (by decide)
  have e47 : jI S1 47 = jI S 47 := f1.I 47 (by decide)
  have hI1 : Inv S1 := hI.c (f1.mono (by decide)) (jFk.of f1 (by decide)) B1 (hI.2.2.2.1.fr f1 (by decide) (by rw [f1.I 0 (by decide)]))
  have fin : ∀ r, rcP (jI S 47) n a b r → Q r S1 := by
    intro r hr
    refine hq _ _ ⟨hs1, fun Q' hq' => ?_⟩
    unfold wX12_reach
    simp only [shA_45 hs1, jN_uI, jN_uJ, jN_uR, jK_uI, jK_uJ, jK_uR, jZ_uI, jZ_uJ, jZ_uR, jR_uI, jR_uJ, jr_uI, jr_uJ, jI_uJ, jI_uR, jJ_uI, jJ_uR, jI_uI_eq, jI_uI_ne, jJ_uJ_eq, jJ_uJ_ne, jSh_uI, jSh_uJ, jA_uI, jA_uJ, jA_uR, jI_uIf_eq, jI_uIf_ne, jJ_uIf, jR_uIf, jr_uIf, jZ_uIf, jSh_uIf, jA_uIf, ne_eq, not_false_eq_true, not_true_eq_false, reduceCtorEq, Nat.reduceEqDiff, forall_eq, true_and, and_true, true_implies, forall_const, implies_true, List.mem_cons, List.not_mem_nil, or_false, false_or, or_self, if_true, if_false, reduceIte, Nat.reduceAdd, Nat.reduceMul, Nat.reduceLT, false_implies, Decidable.not_not, bI_eq0, bI_eq1, upd_at, updL_at, Nat.succ_ne_zero, Int32.reduceToNatClampNeg, eq_self, i01, i10]
    have hI0 : Inv (uI S1 45 0 0) := hI1.m ((jFr.refl _ _).uI (by decide)) ((jFk.refl _ _ _).sI (by decide))
    generalize eM : uI S1 45 0 0 = M at hI0 ⊢
    have eMI : ∀ h, h ≠ 45 → jI M h = jI S1 h := fun h hh => by rw [← eM]; exact jI_uI_ne hh
    have eMJ : jJ M = jJ S1 := by rw [← eM]; rfl
    have eMN : jN M = jN S1 := by rw [← eM]; rfl
    have hsM := hI0.1
    have hmM := hI0.2.1
    have eM47 : jI M 47 = jI S 47 := by rw [eMI 47 (by decide), e47]
    refine sX12_isRock hsM hmM (fun _ _ _ => ⟨fun q => absurd q (by decide), fun _ => ⟨shA_45 hsM, ?_⟩⟩) (fun hx => absurd (rock_of hmM.1 (by rw [eM47]; exact ha)) hx)
    refine sX12_isRock hsM hmM (fun _ _ _ => ⟨fun q => absurd q (by decide), fun _ => ?_⟩) (fun hx => absurd (rock_of hmM.1 (by rw [eM47]; exact hb)) hx)
    refine sX12_isNight (fun _ _ _ => ⟨fun _ => ⟨shA_45 hsM, ?_⟩, fun q => absurd q (by decide)⟩) (fun hx => absurd (ex59 hn) hx)
    refine sX12_layOut hsM hmM (fun S2 f2 k2 x2 => ?_)
    have hs2 := f2.sh.mpr hsM
    have hm2 : MW S2 := hmM.fr f2 (by decide) (by decide)
    have e2 : jI S2 47 = jI S 47 := by rw [f2.I 47 (by decide), eM47]
    have hI2 : Inv S2 := hI0.m (f2.mono (by decide)) (k2.mono (by decide))
    have fin2 : ∀ r', rcP (jI S 47) n a b r' → Q' r' S2 := fun r' hr' => by
      rw [hr'.uniq hr]; exact hq' S2 hI2 (by rw [f2.N, eMN, f1.N]; omega)
    unfold wX12_reach_24
    refine jLoop.cnt (60 - n) (fun k q => ∃ v, q = (45, nI b, v, nI (n + k), S2) ∧ (n + k ≤ 59 → ∀ i, i < 32 → (bt v i = true ↔ gRs (jI S 47) n a k i)) ∧ ∀ j, j < k → ¬ gRs (jI S 47) n a j b) 0 (by omega) ?_ ⟨_, rfl, fun _ i hi => by rw [b_one (by omega) hi, decide_eq_true_iff]; rfl, fun j q => absurd q (Nat.not_lt_zero _)⟩
    rintro k _ hk ⟨v, rfl, hv, hno⟩
    unfold bX12_reach_24
    simp only
    rw [li_59, nI_lt' (by omega) (by omega)]
    refine ⟨fun q => fin2 _ (Or.inr ⟨fun j hj => hno j (by omega), rfl⟩), fun q => ?_⟩
    have hv := hv (by omega)
    refine sX12_is (by omega) (fun hb2 => ⟨fun q => absurd q (by decide), fun _ => fin2 _ (Or.inl ⟨k, ⟨(hv b (by omega)).mp hb2, hno⟩, by omega, rfl⟩)⟩) (fun hb2 => ⟨fun _ => ?_, fun q => absurd rfl q⟩)
    have hno2 : ∀ j, j < k + 1 → ¬ gRs (jI S 47) n a j b := fun j hj => by
      rcases Nat.lt_or_ge j k with l | l
      · exact hno j l
      · rw [show j = k by omega]; exact fun w => hb2 ((hv b (by omega)).mpr w)
    unfold wX12_reach_37
    have out : ∀ u, (n + k + 1 ≤ 59 → ∀ i, i < 32 → (bt u i = true ↔ gRs (jI S 47) n a (k + 1) i)) → wX12_reach_63 (fun l0 l3 l4 l5 S_1 => k < 60 - n ∧ ∃ v, (l0, l3, l4, l5, S_1) = (45, nI b, v, nI (n + (k + 1)), S2) ∧ (n + (k + 1) ≤ 59 → ∀ i, i < 32 → (bt v i = true ↔ gRs (jI S 47) n a (k + 1) i)) ∧ ∀ j, j < k + 1 → ¬ gRs (jI S 47) n a j b) 45 (nI b) (nI (n + k)) u S2 Q' := by
      intro u hu
      unfold wX12_reach_63
      rw [nI_1]
      refine nm_e ⟨by omega, u, rfl, hu, hno2⟩
    refine jLoop.cnt (gR (jI S 47)) (fun c q => ∃ u, q = (45, nI b, v, nI (n + k), u, nI c, S2) ∧ ∀ i, i < 32 → (bt u i = true ↔ ∃ r, r < c ∧ n + k < 59 ∧ gRs (jI S 47) n a k r ∧ gSt (jI S 47) (n + k) r i)) 0 (by omega) ?_ ⟨0, rfl, fun i hi => by rw [b_0]; exact ⟨fun z => by (cases z), fun ⟨r, z, _⟩ => absurd z (Nat.not_lt_zero _)⟩⟩
    rintro c _ hc ⟨u, rfl, hu⟩
    unfold bX12_reach_37 wX12_reach_59
    refine ⟨shA_45 hs2, ?_⟩
    have rk : ∀ {Q : Int32 → JS → Prop}, Q (nI (gR (jI S 47))) S2 → wX12_rocks 45 S2 Q := fun hq => by
      have := rk_of (H := []) hs2 hm2 (jFr.refl _ _) (by decide) (Q := _) (by rw [e2]; exact hq)
      exact this
    refine rk ?_
    rw [nI_le' (by omega) (by omega), li_59, nI_le' (by omega) (by omega)]
    refine ⟨fun z => out u (fun h59 i hi => ?_), fun z => ⟨fun z2 => out u (fun h59 => by omega), fun z2 => ?_⟩⟩
    · rw [hu i hi, gRs]
      exact ⟨fun ⟨r, r1, r2, r3, r4⟩ => ⟨r, gRs_lt ha r3, r3, r4⟩, fun ⟨r, r1, r3, r4⟩ => ⟨r, by omega, by omega, r3, r4⟩⟩
    · refine sX12_is (by omega) (fun hb3 => ?_) (fun hb3 => ?_)
      · have hc1 := (hv c (by omega)).mp hb3
        have hxx := x2 (n + k) c (by omega) (by rw [e2]; omega)
        rw [e2] at hxx
        simp only [shA_45, shA_60, shZ_60, shR_45_2, shr_45_2, shR_45_3, shr_45_3, shR_45_4, shr_45_4, shR_45_5, shr_45_5, shR_45_7, shr_45_7, shR_45_16, shr_45_16, shR_45_18, shr_45_18, shR_45_19, shr_45_19, shR_45_21, shr_45_21, shR_45_22, shr_45_22, shR_45_25, shr_45_25, shR_45_26, shr_45_26, shR_45_28, shr_45_28, shR_45_29, shr_45_29, shR_45_33, shr_45_33, shR_45_34, shr_45_34, shR_45_35, shr_45_35, shR_45_36, shr_45_36, shR_45_37, shr_45_37, shR_45_38, shr_45_38, shR_45_39, shr_45_39, shR_45_40, shr_45_40, shR_45_42, shr_45_42, hs2, ne_eq, not_false_eq_true, not_true_eq_false, reduceCtorEq, Nat.reduceEqDiff, forall_eq, true_and, and_true, true_implies, forall_const, implies_true, List.mem_cons, List.not_mem_nil, or_false, false_or, or_self, if_true, if_false, reduceIte, Nat.reduceAdd, Nat.reduceMul, Nat.reduceLT, false_implies, Decidable.not_not, bI_eq0, bI_eq1, upd_at, updL_at, Nat.succ_ne_zero, Int32.reduceToNatClampNeg, eq_self, i01, i10]
        simp (disch := omega) only [li_9, li_1, nI_add, nI_mul, nI_inT, nI_tn, ne_eq, not_false_eq_true, not_true_eq_false, reduceCtorEq, Nat.reduceEqDiff, forall_eq, true_and, and_true, true_implies, forall_const, implies_true, List.mem_cons, List.not_mem_nil, or_false, false_or, or_self, if_true, if_false, reduceIte, Nat.reduceAdd, Nat.reduceMul, Nat.reduceLT, false_implies, Decidable.not_not, bI_eq0, bI_eq1, upd_at, updL_at, Nat.succ_ne_zero, Int32.reduceToNatClampNeg, eq_self, i01, i10]
        refine ⟨by omega, _, rfl, fun i hi => ?_⟩
        rw [b_or, Bool.or_eq_true, hu i hi, hxx i hi]
        constructor
        · rintro (⟨r, r1, r2⟩ | w)
          · exact ⟨r, by omega, r2⟩
          · exact ⟨c, by omega, by omega, hc1, w⟩
        · rintro ⟨r, r1, r2, r3, r4⟩
          rcases Nat.lt_or_ge r c with l | l
          · exact Or.inl ⟨r, l, r2, r3, r4⟩
          · have : r = c := by omega
            subst this; exact Or.inr r4
      · simp (disch := omega) only [li_1, nI_add, ne_eq, not_false_eq_true, not_true_eq_false, reduceCtorEq, Nat.reduceEqDiff, forall_eq, true_and, and_true, true_implies, forall_const, implies_true, List.mem_cons, List.not_mem_nil, or_false, false_or, or_self, if_true, if_false, reduceIte, Nat.reduceAdd, Nat.reduceMul, Nat.reduceLT, false_implies, Decidable.not_not, bI_eq0, bI_eq1, upd_at, updL_at, Nat.succ_ne_zero, Int32.reduceToNatClampNeg, eq_self, i01, i10]
        refine ⟨by omega, _, rfl, fun i hi => ?_⟩
        rw [b_or, b_0, Bool.or_false, hu i hi]
        refine ⟨fun ⟨r, r1, r2⟩ => ⟨r, by omega, r2⟩, fun ⟨r, r1, r2, r3, r4⟩ => ⟨r, ?_, r2, r3, r4⟩⟩
        rcases Nat.lt_or_ge r c with l | l
        · exact l
        · have : r = c := by omega
          subst this; exact absurd ((hv r (by omega)).mpr r3) hb3
  unfold wX11_reach_28
  refine jLoop.cnt (59 - n) (fun k q => ∃ v, q = (0, nI b, v, nI (n + k), S1) ∧ (∀ i, i < 32 → (bt v i = true ↔ gRs (jI S 47) n a k i)) ∧ ∀ j, j < k → ¬ gRs (jI S 47) n a j b) 0 (by omega) ?_ ⟨_, rfl, fun i hi => by rw [b_one (by omega) hi, decide_eq_true_iff]; rfl, fun j q => absurd q (Nat.not_lt_zero _)⟩
  rintro k _ hk ⟨v, rfl, hv, hno⟩
  unfold bX11_reach_28
  simp only
  rw [li_59, nI_le' (by omega) (by omega)]
  refine ⟨fun q => ?_, fun q => ?_⟩
  · refine sX11_hasBit (by omega) (fun hb2 => ⟨fun q => absurd q (by decide), fun _ => ?_⟩) (fun hb2 => ⟨fun _ => fin _ (Or.inr ⟨fun j hj => ?_, rfl⟩), fun q => absurd rfl q⟩)
    · have := fin (nI (n + k)) (Or.inl ⟨k, ⟨(hv b (by omega)).mp hb2, hno⟩, by omega, rfl⟩)
      rw [show n + k = 59 by omega] at this; exact this
    · rcases Nat.lt_or_ge j k with l | l
      · exact hno j l
      · rw [show j = k by omega]; exact fun w => hb2 ((hv b (by omega)).mpr w)
  · refine sX11_hasBit (by omega) (fun hb2 => ⟨fun q => absurd q (by decide), fun _ => fin _ (Or.inl ⟨k, ⟨(hv b (by omega)).mp hb2, hno⟩, by omega, rfl⟩)⟩) (fun hb2 => ⟨fun _ => ?_, fun q => absurd rfl q⟩)
    simp only [shA_0, shA_23, shR_0_0, shr_0_0, shR_0_1, shr_0_1, shR_0_2, shr_0_2, shR_0_3, shr_0_3, shR_0_4, shr_0_4, shR_0_5, shr_0_5, shR_0_6, shr_0_6, shR_0_7, shr_0_7, shR_0_8, shr_0_8, shR_0_9, shr_0_9, shR_23_0, shr_23_0, shR_23_1, shr_23_1, shR_23_2, shr_23_2, hs1, ne_eq, not_false_eq_true, not_true_eq_false, reduceCtorEq, Nat.reduceEqDiff, forall_eq, true_and, and_true, true_implies, forall_const, implies_true, List.mem_cons, List.not_mem_nil, or_false, false_or, or_self, if_true, if_false, reduceIte, Nat.reduceAdd, Nat.reduceMul, Nat.reduceLT, false_implies, Decidable.not_not, bI_eq0, bI_eq1, upd_at, updL_at, Nat.succ_ne_zero, Int32.reduceToNatClampNeg, eq_self, i01, i10]
    refine sX1_stepsOfAll (P := gRs (jI S 47) n a k) hs1 hm1 (by omega) (fun r hr => s1 (n + k) r (by omega) (by omega) hr) (fun i hi => by rw [e47]; exact gRs_lt ha hi) hv (fun u hu => ?_)
    rw [e47] at hu
    rw [nI_1]
    refine ⟨by omega, u, rfl, hu, fun j hj => ?_⟩
    rcases Nat.lt_or_ge j k with l | l
    · exact hno j l
    · rw [show j = k by omega]; exact fun w => hb2 ((hv b (by omega)).mpr w)
