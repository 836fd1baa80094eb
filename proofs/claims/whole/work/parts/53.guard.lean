theorem sX2_leastUnwarned {S : JS} {Q : Int32 → JS → Prop} {a b r : Nat} (hs : jSh S) (hm : MW S) (hab : a ≤ b) (hb : b < 60) (hr : r < gR (jI S 47)) (hd : knD S a (b + 1)) (hg : gdOk S b a) (h : Q (nI (gGu (jI S 47) b (b - a) r)) S) : wX2_leastUnwarned 37 1 23 (nI r) (nI a) (nI b) S Q := by
  obtain ⟨R1, R2, R3⟩ := hm.1.1
  unfold wX2_leastUnwarned wX2_leastUnwarned_4
  refine jLoop.cnt (b - a + 1) (fun c q => q = (37, 1, 23, nI r, nI a, nI b, nI (gSm (jI S 47) a c), nI (a + c), S)) 0 (by omega) ?_ rfl
  rintro c _ hc rfl
  unfold bX2_leastUnwarned_4 wX11_placeOf
  simp only [shA_23, shA_37, shA_38, shZ_38, shR_23_0, shr_23_0, shR_23_1, shr_23_1, shR_23_2, shr_23_2, shR_37_0, shr_37_0, hs, pl_nI, ne_eq, not_false_eq_true, not_true_eq_false, reduceCtorEq, Nat.reduceEqDiff, forall_eq, true_and, and_true, true_implies, forall_const, implies_true, List.mem_cons, List.not_mem_nil, or_false, false_or, or_self, if_true, if_false, reduceIte, Nat.reduceAdd, Nat.reduceMul, Nat.reduceLT, false_implies, Decidable.not_not, bI_eq0, bI_eq1, upd_at, updL_at, Nat.succ_ne_zero, Int32.reduceToNatClampNeg, eq_self, i01, i10]
  rw [nI_lt' (by omega) (by omega), nI_tn (by omega), hg a r (Nat.le_refl _) hab hr]
  refine ⟨fun z => ⟨nI_in2 (by omega) (by omega), ?_⟩, fun z => sX1_allDanger hs hm (by omega) (fun p hp => hd (a + c) p (by omega) (by omega) hp) ?_⟩
  · have e : gSm (jI S 47) a c = gTt (jI S 47) b (b - a) := by unfold gTt; rw [show b - (b - a) = a by omega, show c = b - a + 1 by omega]
    have hle := gGu_le (row := jI S 47) (b := b) (b - a) r (by omega) hr
    rw [e, nI_sub (by omega), show gTt (jI S 47) b (b - a) - (gTt (jI S 47) b (b - a) - gGu (jI S 47) b (b - a) r) = gGu (jI S 47) b (b - a) r by omega]
    exact h
  · rw [nI_add, nI_1]
    exact ⟨by omega, rfl⟩
theorem sX2_rockOfWay {S : JS} {Q : Int32 → JS → Prop} {a b r i : Nat} (hs : jSh S) (hm : MW S) (hb : b < 60) (hi : a + i ≤ b) (hr : r < gR (jI S 47)) (hx : knS S a (b + 1)) (hg : gdOk S b a) (h : ∀ v, gGw (jI S 47) b a r i v → Q (nI v) S) : wX2_rockOfWay 37 23 (nI r) (nI a) (nI i) S Q := by
  obtain ⟨R1, R2, R3⟩ := hm.1.1
  unfold wX2_rockOfWay wX2_rockOfWay_4
  refine jLoop.cnt i (fun k q => ∃ u, q = (37, 23, nI a, nI i, nI u, nI (a + k), S) ∧ gGw (jI S 47) b a r k u) 0 (by omega) ?_ ⟨r, rfl, rfl⟩
  rintro k _ hk ⟨u, rfl, u1⟩
  have uR := gGw_lt hr u1
  unfold bX2_rockOfWay_4
  simp only
  rw [nI_add, nI_le' (by omega) (by omega)]
  refine ⟨fun z => ?_, fun z => ⟨shA_37 hs, ?_⟩⟩
  · have : k = i := by omega
    subst this; exact h u u1
  · refine sX2_bestStep hs hm hb (show a + k < b by omega) uR (hx (a + k) u (by omega) (by omega) (by omega)) (fun n p q1 q2 q3 => hg n p (by omega) q2 q3) (fun p hp pR => ?_)
    rw [nI_1]
    exact nm_e ⟨by omega, p, rfl, u, u1, hp⟩
theorem q_guard {S : JS} {Q : Int32 → JS → Prop} {x y z w : Int32} (hI : Inv S) (hq : ∀ r S1, Mdl (wX12_guard 45 x y z w) S r S1 → Q r S1) : wX11_guard 0 x y z w S Q := by
  have hs := hI.1
  have hm := hI.2.1
  have hR := hm.1.1.2.1
  have no : (¬ (0 ≤ x ∧ x < jI S 47 0) ∨ ¬ (0 ≤ y ∧ y ≤ 59) ∨ ¬ (0 ≤ z ∧ z ≤ 59) ∨ z < y ∨ ¬ (-1 ≤ w ∧ w ≤ z - y)) → Q (-1) S := by
    intro hx
    refine hq _ _ ⟨hs, fun Q' hq' => ?_⟩
    unfold wX12_guard
    simp only [shA_45 hs, jN_uI, jN_uJ, jN_uR, jK_uI, jK_uJ, jK_uR, jZ_uI, jZ_uJ, jZ_uR, jR_uI, jR_uJ, jr_uI, jr_uJ, jI_uJ, jI_uR, jJ_uI, jJ_uR, jI_uI_eq, jI_uI_ne, jJ_uJ_eq, jJ_uJ_ne, jSh_uI, jSh_uJ, jA_uI, jA_uJ, jA_uR, jI_uIf_eq, jI_uIf_ne, jJ_uIf, jR_uIf, jr_uIf, jZ_uIf, jSh_uIf, jA_uIf, ne_eq, not_false_eq_true, not_true_eq_false, reduceCtorEq, Nat.reduceEqDiff, forall_eq, true_and, and_true, true_implies, forall_const, implies_true, List.mem_cons, List.not_mem_nil, or_false, false_or, or_self, if_true, if_false, reduceIte, Nat.reduceAdd, Nat.reduceMul, Nat.reduceLT, false_implies, Decidable.not_not, bI_eq0, bI_eq1, upd_at, updL_at, Nat.succ_ne_zero, Int32.reduceToNatClampNeg, eq_self, i01, i10]
    have hI0 := hI.t0
    have fin := hq' _ hI0 (Nat.le_add_right _ _)
    refine sX12_isRock hI0.1 hI0.2.1 (fun a ha ea => ⟨fun q => absurd q (by decide), fun _ => ?_⟩) (fun _ => ⟨fun _ => fin, fun q => absurd rfl q⟩)
    refine sX12_isNight (fun n hn en => ⟨fun q => absurd q (by decide), fun _ => ?_⟩) (fun _ => ⟨fun _ => fin, fun q => absurd rfl q⟩)
    refine sX12_isNight (fun m hm2 em => ⟨fun q => absurd q (by decide), fun _ => ⟨fun _ => fin, fun hlt => ?_⟩⟩) (fun _ => ⟨fun _ => fin, fun q => absurd rfl q⟩)
    refine sX12_in' (-1) (z - y) rfl rfl (fun z1 z2 => ?_) (fun _ => ⟨fun q => absurd rfl q, fun _ => fin⟩)
    rcases hx with hx | hx | hx | hx | hx
    · exact absurd (by rw [ea]; exact rock_of hm.1 ha) hx
    · exact absurd (en ▸ ex59 hn) hx
    · exact absurd (em ▸ ex59 hm2) hx
    · exact absurd hx hlt
    · exact absurd ⟨z1, z2⟩ hx
  unfold wX11_guard
  simp only [shA_0, shA_1, shR_0_0, shr_0_0, shR_0_1, shr_0_1, shR_0_2, shr_0_2, shR_0_3, shr_0_3, shR_0_4, shr_0_4, shR_0_5, shr_0_5, shR_0_6, shr_0_6, shR_0_7, shr_0_7, shR_0_8, shr_0_8, shR_0_9, shr_0_9, shR_1_4, shr_1_4, shR_1_5, shr_1_5, shR_1_6, shr_1_6, shR_1_9, shr_1_9, shR_1_11, shr_1_11, hs, ne_eq, not_false_eq_true, not_true_eq_false, reduceCtorEq, Nat.reduceEqDiff, forall_eq, true_and, and_true, true_implies, forall_const, implies_true, List.mem_cons, List.not_mem_nil, or_false, false_or, or_self, if_true, if_false, reduceIte, Nat.reduceAdd, Nat.reduceMul, Nat.reduceLT, false_implies, Decidable.not_not, bI_eq0, bI_eq1, upd_at, updL_at, Nat.succ_ne_zero, Int32.reduceToNatClampNeg, eq_self, i01, i10]
  refine sX9_hasRock' hs hm (fun r hr er => ⟨fun q => absurd q (by decide), fun _ => ?_⟩) (fun hx => ⟨fun _ => no (Or.inl hx), fun q => absurd rfl q⟩)
  refine sX11_isNight (fun a ha ea => ⟨fun q => absurd q (by decide), fun _ => ?_⟩) (fun hx => ⟨fun _ => no (Or.inr (Or.inl hx)), fun q => absurd rfl q⟩)
  refine sX11_isNight (fun b hb eb => ⟨fun q => absurd q (by decide), fun _ => ⟨fun hab => ⟨fun h1 => no (Or.inr (Or.inr (Or.inr (Or.inr (fun q => by have := q.1; lia))))), fun h1 => ⟨fun h2 => ?_, fun h2 => no (Or.inr (Or.inr (Or.inr (Or.inr (fun q => h2 q.2)))))⟩⟩, fun hab => no (Or.inr (Or.inr (Or.inr (Or.inl (by lia)))))⟩⟩) (fun hx => ⟨fun _ => no (Or.inr (Or.inr (Or.inl hx))), fun q => absurd rfl q⟩)
  subst er ea eb
  rw [nI_le' (by omega) (by omega)] at hab
  -- the last number
  have hw : w = -1 ∨ ∃ i, a + i ≤ b ∧ w = nI i := by
    rcases (by lia : w = -1 ∨ ¬ w < 0) with e | e
    · exact Or.inl e
    · obtain ⟨i, hi, rfl⟩ := nI_of e
      rw [nI_sub hab] at h2
      have := (nI_leI hi (by omega)).mp h2
      exact Or.inr ⟨i, by omega, rfl⟩
  have hwin : -1 ≤ w ∧ w ≤ nI b - nI a := ⟨by lia, h2⟩
  simp only [shA_0, shA_1, shA_23, shR_0_0, shr_0_0, shR_0_1, shr_0_1, shR_0_2, shr_0_2, shR_0_3, shr_0_3, shR_0_4, shr_0_4, shR_0_5, shr_0_5, shR_0_6, shr_0_6, shR_0_7, shr_0_7, shR_0_8, shr_0_8, shR_0_9, shr_0_9, shR_1_4, shr_1_4, shR_1_5, shr_1_5, shR_1_6, shr_1_6, shR_1_9, shr_1_9, shR_1_11, shr_1_11, shR_23_0, shr_23_0, shR_23_1, shr_23_1, shR_23_2, shr_23_2, hs, ne_eq, not_false_eq_true, not_true_eq_false, reduceCtorEq, Nat.reduceEqDiff, forall_eq, true_and, and_true, true_implies, forall_const, implies_true, List.mem_cons, List.not_mem_nil, or_false, false_or, or_self, if_true, if_false, reduceIte, Nat.reduceAdd, Nat.reduceMul, Nat.reduceLT, false_implies, Decidable.not_not, bI_eq0, bI_eq1, upd_at, updL_at, Nat.succ_ne_zero, Int32.reduceToNatClampNeg, eq_self, i01, i10]
  refine sX1_learnAll hs hm hI.2.2.1 ha hb (fun S1 f1 B1 s1 => ?_)
  have hs1 := f1.sh.mpr hs
  have hm1 : MW S1 := hm.fr f1 (by decide) (by decide)
  have e1 : jI S1 47 = jI S 47 := f1.I 47 (by decide)
  simp only [shA_0, shA_1, shA_23, shR_0_0, shr_0_0, shR_0_1, shr_0_1, shR_0_2, shr_0_2, shR_0_3, shr_0_3, shR_0_4, shr_0_4, shR_0_5, shr_0_5, shR_0_6, shr_0_6, shR_0_7, shr_0_7, shR_0_8, shr_0_8, shR_0_9, shr_0_9, shR_1_4, shr_1_4, shR_1_5, shr_1_5, shR_1_6, shr_1_6, shR_1_9, shr_1_9, shR_1_11, shr_1_11, shR_23_0, shr_23_0, shR_23_1, shr_23_1, shR_23_2, shr_23_2, hs1, ne_eq, not_false_eq_true, not_true_eq_false, reduceCtorEq, Nat.reduceEqDiff, forall_eq, true_and, and_true, true_implies, forall_const, implies_true, List.mem_cons, List.not_mem_nil, or_false, false_or, or_self, if_true, if_false, reduceIte, Nat.reduceAdd, Nat.reduceMul, Nat.reduceLT, false_implies, Decidable.not_not, bI_eq0, bI_eq1, upd_at, updL_at, Nat.succ_ne_zero, Int32.reduceToNatClampNeg, eq_self, i01, i10]
  refine sX1_learnDangers hs1 hm1 B1 ha hb (fun S2 f2 B2 d2 => ?_)
  have hs2 := f2.sh.mpr hs1
  have hm2 : MW S2 := hm1.fr f2 (by decide) (by decide)
  have e2 : jI S2 47 = jI S 47 := by rw [f2.I 47 (by decide), e1]
  have k2 : knS S2 a (b + 1) := by unfold knS at s1 ⊢; rw [f2.I 47 (by decide), f2.I 27 (by decide)]; exact s1
  simp only [shA_0, shA_1, shA_23, shA_37, shR_0_0, shr_0_0, shR_0_1, shr_0_1, shR_0_2, shr_0_2, shR_0_3, shr_0_3, shR_0_4, shr_0_4, shR_0_5, shr_0_5, shR_0_6, shr_0_6, shR_0_7, shr_0_7, shR_0_8, shr_0_8, shR_0_9, shr_0_9, shR_1_4, shr_1_4, shR_1_5, shr_1_5, shR_1_6, shr_1_6, shR_1_9, shr_1_9, shR_1_11, shr_1_11, shR_23_0, shr_23_0, shR_23_1, shr_23_1, shR_23_2, shr_23_2, shR_37_0, shr_37_0, hs2, ne_eq, not_false_eq_true, not_true_eq_false, reduceCtorEq, Nat.reduceEqDiff, forall_eq, true_and, and_true, true_implies, forall_const, implies_true, List.mem_cons, List.not_mem_nil, or_false, false_or, or_self, if_true, if_false, reduceIte, Nat.reduceAdd, Nat.reduceMul, Nat.reduceLT, false_implies, Decidable.not_not, bI_eq0, bI_eq1, upd_at, updL_at, Nat.succ_ne_zero, Int32.reduceToNatClampNeg, eq_self, i01, i10]
  refine sX2_weigh hs2 hm2 hab hb k2 d2 (fun S3 f3 g3 => ?_)
  have hs3 := f3.sh.mpr hs2
  have hm3 : MW S3 := hm2.fr f3 (by decide) (by decide)
  have e3 : jI S3 47 = jI S 47 := by rw [f3.I 47 (by decide), e2]
  have k3 : knS S3 a (b + 1) := by unfold knS at k2 ⊢; rw [f3.I 47 (by decide), f3.I 27 (by decide)]; exact k2
  have d3 : knD S3 a (b + 1) := by unfold knD at d2 ⊢; rw [f3.I 47 (by decide), f3.I 28 (by decide)]; exact d2
  have f03 : jFr [24, 25, 26, 27, 28, 38] S S3 := ((f1.mono (by decide)).tr (f2.mono (by decide))).tr (f3.mono (by decide))
  have hI3 : Inv S3 := hI.c (f03.mono (by decide)) (jFk.of f03 (by decide)) (B2.fr f3 (by decide)) (hI.2.2.2.1.fr f03 (by decide) (by rw [f03.I 0 (by decide)]))
  have fin : ∀ u : Nat, (w = -1 → u = gGu (jI S 47) b (b - a) r) → (∀ i, a + i ≤ b → w = nI i → gGw (jI S 47) b a r i u) → Q (nI u) S3 := by
    intro u hu1 hu2
    refine hq _ _ ⟨hs3, fun Q' hq' => ?_⟩
    unfold wX12_guard
    simp only [shA_45 hs3, jN_uI, jN_uJ, jN_uR, jK_uI, jK_uJ, jK_uR, jZ_uI, jZ_uJ, jZ_uR, jR_uI, jR_uJ, jr_uI, jr_uJ, jI_uJ, jI_uR, jJ_uI, jJ_uR, jI_uI_eq, jI_uI_ne, jJ_uJ_eq, jJ_uJ_ne, jSh_uI, jSh_uJ, jA_uI, jA_uJ, jA_uR, jI_uIf_eq, jI_uIf_ne, jJ_uIf, jR_uIf, jr_uIf, jZ_uIf, jSh_uIf, jA_uIf, ne_eq, not_false_eq_true, not_true_eq_false, reduceCtorEq, Nat.reduceEqDiff, forall_eq, true_and, and_true, true_implies, forall_const, implies_true, List.mem_cons, List.not_mem_nil, or_false, false_or, or_self, if_true, if_false, reduceIte, Nat.reduceAdd, Nat.reduceMul, Nat.reduceLT, false_implies, Decidable.not_not, bI_eq0, bI_eq1, upd_at, updL_at, Nat.succ_ne_zero, Int32.reduceToNatClampNeg, eq_self, i01, i10]
    have hI1 := hI3
    generalize hS1 : S3 = S1 at *
    have hI0 : Inv (uI S1 45 0 0) := hI1.m ((jFr.refl _ _).uI (by decide)) ((jFk.refl _ _ _).sI (by decide))
    generalize eM : uI S1 45 0 0 = M at hI0 ⊢
    have eMI : ∀ h, h ≠ 45 → jI M h = jI S1 h := fun h hh => by rw [← eM]; exact jI_uI_ne hh
    have eMJ : jJ M = jJ S1 := by rw [← eM]; rfl
    have eMN : jN M = jN S1 := by rw [← eM]; rfl
    have hsM := hI0.1
    have hmM := hI0.2.1
    have eM47 : jI M 47 = jI S 47 := by rw [eMI 47 (by decide), e3]
    refine sX12_isRock hsM hmM (fun _ _ _ => ⟨fun q => absurd q (by decide), fun _ => ?_⟩) (fun hx => absurd (rock_of hmM.1 (by rw [eM47]; exact hr)) hx)
    refine sX12_isNight (fun _ _ _ => ⟨fun q => absurd q (by decide), fun _ => ?_⟩) (fun hx => absurd (ex59 ha) hx)
    refine sX12_isNight (fun _ _ _ => ⟨fun q => absurd q (by decide), fun _ => ⟨fun q => absurd ((nI_lt' (by omega) (by omega)).mp q) (by omega), fun _ => ?_⟩⟩) (fun hx => absurd (ex59 hb) hx)
    refine sX12_in' (-1) _ rfl rfl (fun _ _ => ⟨fun _ => ⟨shA_45 hsM, ?_⟩, fun q => absurd q (by decide)⟩) (fun hx => absurd hwin hx)
    refine sX12_layOut hsM hmM (fun S4 f4 k4 x4 => ?_)
    have hs4 := f4.sh.mpr hsM
    have hm4 : MW S4 := hmM.fr f4 (by decide) (by decide)
    have e4 : jI S4 47 = jI S 47 := by rw [f4.I 47 (by decide), eM47]
    refine gd_weigh hs4 hm4 hab hb x4 (fun S5 f5 k5 o5 => ?_)
    have hs5 := f5.sh.mpr hs4
    have hm5 : MW S5 := hm4.fr f5 (by decide) (by decide)
    have e5 : jI S5 47 = jI S 47 := by rw [f5.I 47 (by decide), e4]
    have x5 := x4.fr f5 (by decide)
    have hI5 : Inv S5 := hI0.m ((f4.mono (by decide)).tr (f5.mono (by decide))) ((k4.tr k5).mono (by decide))
    have n5 : jN S5 = jN S := by rw [f5.N, f4.N, eMN, f03.N]
    refine ⟨fun q => ?_, fun q => ?_⟩
    · rcases hw with e | ⟨i, i1, i2⟩
      · exact absurd e q
      · subst i2
        refine gd_walk hs5 hm5 hb i1 (by rw [e5]; exact hr) x5 o5 (fun S6 v f6 k6 v6 => ?_)
        rw [e5] at v6
        rw [gGw_uniq v6 (hu2 i i1 rfl)]
        exact hq' S6 (hI5.m (f6.mono (by decide)) (k6.mono (by decide))) (by rw [f6.N, n5]; omega)
    · simp only [shA_45, shA_62, shZ_62, shR_45_2, shr_45_2, shR_45_3, shr_45_3, shR_45_4, shr_45_4, shR_45_5, shr_45_5, shR_45_7, shr_45_7, shR_45_16, shr_45_16, shR_45_18, shr_45_18, shR_45_19, shr_45_19, shR_45_21, shr_45_21, shR_45_22, shr_45_22, shR_45_25, shr_45_25, shR_45_26, shr_45_26, shR_45_28, shr_45_28, shR_45_29, shr_45_29, shR_45_33, shr_45_33, shR_45_34, shr_45_34, shR_45_35, shr_45_35, shR_45_36, shr_45_36, shR_45_37, shr_45_37, shR_45_38, shr_45_38, shR_45_39, shr_45_39, shR_45_40, shr_45_40, shR_45_42, shr_45_42, hs5, ne_eq, not_false_eq_true, not_true_eq_false, reduceCtorEq, Nat.reduceEqDiff, forall_eq, true_and, and_true, true_implies, forall_const, implies_true, List.mem_cons, List.not_mem_nil, or_false, false_or, or_self, if_true, if_false, reduceIte, Nat.reduceAdd, Nat.reduceMul, Nat.reduceLT, false_implies, Decidable.not_not, bI_eq0, bI_eq1, upd_at, updL_at, Nat.succ_ne_zero, Int32.reduceToNatClampNeg, eq_self, i01, i10]
      simp (disch := omega) only [li_9, nI_add, nI_mul, nI_inT, nI_tn, ne_eq, not_false_eq_true, not_true_eq_false, reduceCtorEq, Nat.reduceEqDiff, forall_eq, true_and, and_true, true_implies, forall_const, implies_true, List.mem_cons, List.not_mem_nil, or_false, false_or, or_self, if_true, if_false, reduceIte, Nat.reduceAdd, Nat.reduceMul, Nat.reduceLT, false_implies, Decidable.not_not, bI_eq0, bI_eq1, upd_at, updL_at, Nat.succ_ne_zero, Int32.reduceToNatClampNeg, eq_self, i01, i10]
      rw [o5 a r (Nat.le_refl _) hab (by rw [e5]; exact hr), e5, ← hu1 q]
      exact hq' S5 hI5 (by omega)
  refine ⟨fun q => ?_, fun q => ?_⟩
  · simp only [shA_0, shA_1, shA_23, shA_37, shR_0_0, shr_0_0, shR_0_1, shr_0_1, shR_0_2, shr_0_2, shR_0_3, shr_0_3, shR_0_4, shr_0_4, shR_0_5, shr_0_5, shR_0_6, shr_0_6, shR_0_7, shr_0_7, shR_0_8, shr_0_8, shR_0_9, shr_0_9, shR_1_4, shr_1_4, shR_1_5, shr_1_5, shR_1_6, shr_1_6, shR_1_9, shr_1_9, shR_1_11, shr_1_11, shR_23_0, shr_23_0, shR_23_1, shr_23_1, shR_23_2, shr_23_2, shR_37_0, shr_37_0, hs3, ne_eq, not_false_eq_true, not_true_eq_false, reduceCtorEq, Nat.reduceEqDiff, forall_eq, true_and, and_true, true_implies, forall_const, implies_true, List.mem_cons, List.not_mem_nil, or_false, false_or, or_self, if_true, if_false, reduceIte, Nat.reduceAdd, Nat.reduceMul, Nat.reduceLT, false_implies, Decidable.not_not, bI_eq0, bI_eq1, upd_at, updL_at, Nat.succ_ne_zero, Int32.reduceToNatClampNeg, eq_self, i01, i10]
    rcases hw with e | ⟨i, i1, i2⟩
    · exact absurd e q
    · subst i2
      refine sX2_rockOfWay hs3 hm3 hb i1 (by rw [e3]; exact hr) k3 g3 (fun v hv => ?_)
      rw [e3] at hv
      refine fin v (fun e => absurd e q) (fun i' j1 j2 => ?_)
      have := (nI_eq' (a := i) (b := i') (by omega) (by omega)).mp j2
      subst this; exact hv
  · simp only [shA_0, shA_1, shA_23, shA_37, shR_0_0, shr_0_0, shR_0_1, shr_0_1, shR_0_2, shr_0_2, shR_0_3, shr_0_3, shR_0_4, shr_0_4, shR_0_5, shr_0_5, shR_0_6, shr_0_6, shR_0_7, shr_0_7, shR_0_8, shr_0_8, shR_0_9, shr_0_9, shR_1_4, shr_1_4, shR_1_5, shr_1_5, shR_1_6, shr_1_6, shR_1_9, shr_1_9, shR_1_11, shr_1_11, shR_23_0, shr_23_0, shR_23_1, shr_23_1, shR_23_2, shr_23_2, shR_37_0, shr_37_0, hs3, ne_eq, not_false_eq_true, not_true_eq_false, reduceCtorEq, Nat.reduceEqDiff, forall_eq, true_and, and_true, true_implies, forall_const, implies_true, List.mem_cons, List.not_mem_nil, or_false, false_or, or_self, if_true, if_false, reduceIte, Nat.reduceAdd, Nat.reduceMul, Nat.reduceLT, false_implies, Decidable.not_not, bI_eq0, bI_eq1, upd_at, updL_at, Nat.succ_ne_zero, Int32.reduceToNatClampNeg, eq_self, i01, i10]
    refine sX2_leastUnwarned hs3 hm3 hab hb (by rw [e3]; exact hr) d3 g3 ?_
    rw [e3]
    refine fin _ (fun _ => rfl) (fun i j1 j2 => ?_)
    rw [q] at j2
    have := nI_nn (n := i) (by omega)
    rw [← j2] at this; exact absurd this (by decide)
