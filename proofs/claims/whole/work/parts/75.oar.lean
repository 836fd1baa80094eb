/-! OAR, END, FEED -/
theorem sX12_isWedding' {S : JS} {Q : Int32 → JS → Prop} {r n : Nat} (hs : jSh S) (hr : RowOk (jI S 47)) (hn : n < 60) (h1 : gWd (jI S 47) r n → Q 1 S) (h0 : ¬ gWd (jI S 47) r n → Q 0 S) : wX12_isWedding 45 (nI r) (nI n) S Q := by
  obtain ⟨w, w1, w2, w3⟩ := hr.2.2.2.2.1
  unfold wX12_isWedding wX12_isWedding_4
  refine jLoop.cnt w (fun c q => ∃ z, q = (45, nI r, nI n, z, nI c, S) ∧ ((z = 0 ∧ ∀ i, i < c → ¬ (jI S 47 (68 + 3 * i) = nI r ∧ jI S 47 (68 + 3 * i + 1) ≤ nI n ∧ nI n ≤ jI S 47 (68 + 3 * i + 2))) ∨ (z = 1 ∧ gWd (jI S 47) r n))) 0 (Nat.zero_le _) ?_ ⟨0, rfl, Or.inl ⟨rfl, fun i hi => absurd hi (Nat.not_lt_zero _)⟩⟩
  rintro c _ hc ⟨z, rfl, hi⟩
  unfold bX12_isWedding_4 wX12_isWedding_42 wX12_isWedding_44 wX12_isWedding_45
  simp only [shA_45, shA_47, shZ_47, shR_45_2, shr_45_2, shR_45_3, shr_45_3, shR_45_4, shr_45_4, shR_45_5, shr_45_5, shR_45_7, shr_45_7, shR_45_16, shr_45_16, shR_45_18, shr_45_18, shR_45_19, shr_45_19, shR_45_21, shr_45_21, shR_45_22, shr_45_22, shR_45_25, shr_45_25, shR_45_26, shr_45_26, shR_45_28, shr_45_28, shR_45_29, shr_45_29, shR_45_33, shr_45_33, shR_45_34, shr_45_34, shR_45_35, shr_45_35, shR_45_36, shr_45_36, shR_45_37, shr_45_37, shR_45_38, shr_45_38, shR_45_39, shr_45_39, shR_45_40, shr_45_40, shR_45_42, shr_45_42, hs, w2, ne_eq, not_false_eq_true, not_true_eq_false, reduceCtorEq, Nat.reduceEqDiff, forall_eq, true_and, and_true, true_implies, forall_const, implies_true, List.mem_cons, List.not_mem_nil, or_false, false_or, or_self, if_true, if_false, reduceIte, Nat.reduceAdd, Nat.reduceMul, Nat.reduceLT, false_implies, Decidable.not_not, bI_eq0, bI_eq1, upd_at, updL_at, Nat.succ_ne_zero, Int32.reduceToNatClampNeg, eq_self, i01, i10]
  simp (disch := omega) only [li_0, li_1, li_2, li_3, li_4, li_5, li_6, li_7, li_8, li_9, li_10, li_11, li_12, li_13, li_14, li_15, li_16, li_17, li_18, li_19, li_20, li_21, li_22, li_23, li_24, li_25, li_26, li_27, li_31, li_32, li_45, li_47, li_48, li_50, li_57, li_58, li_59, li_60, li_63, li_64, li_68, li_69, li_70, li_80, li_90, li_91, li_93, li_96, li_97, li_98, li_99, li_100, li_122, li_140, li_141, li_142, li_188, li_200, li_255, li_400, li_511, li_512, li_900, li_1000, li_4320, li_4608, li_5600, li_1000000, nI_add, nI_mul, nI_le', nI_lt', nI_eq', nI_tn, nI_inT, nI_sub, nI_eqm1, nI_ltm, ne_eq, not_false_eq_true, not_true_eq_false, reduceCtorEq, Nat.reduceEqDiff, forall_eq, true_and, and_true, true_implies, forall_const, implies_true, List.mem_cons, List.not_mem_nil, or_false, false_or, or_self, if_true, if_false, reduceIte, Nat.reduceAdd, Nat.reduceMul, Nat.reduceLT, false_implies, Decidable.not_not, bI_eq0, bI_eq1, upd_at, updL_at, Nat.succ_ne_zero, Int32.reduceToNatClampNeg, eq_self, i01, i10]
  refine ⟨fun q => ?_, fun q => ⟨fun q2 => ?_, fun q2 => ?_⟩⟩
  · rcases hi with ⟨e, hi⟩ | ⟨e, hi⟩ <;> subst e
    · refine ⟨Or.inl rfl, h0 ?_⟩
      rintro ⟨i, i1, i2⟩
      rw [w2, nI_tn (by omega)] at i1
      exact hi i (by omega) i2
    · exact ⟨Or.inr rfl, h1 hi⟩
  · rcases hi with ⟨e, hi⟩ | ⟨e, hi⟩
    · exact absurd e q2
    · exact ⟨by omega, 1, rfl, Or.inr ⟨rfl, hi⟩⟩
  · rcases hi with ⟨e, hi⟩ | ⟨e, hi⟩
    · have nx : ¬ (jI S 47 (68 + 3 * c) = nI r ∧ jI S 47 (68 + 3 * c + 1) ≤ nI n ∧ nI n ≤ jI S 47 (68 + 3 * c + 2)) → ∀ i, i < c + 1 → ¬ (jI S 47 (68 + 3 * i) = nI r ∧ jI S 47 (68 + 3 * i + 1) ≤ nI n ∧ nI n ≤ jI S 47 (68 + 3 * i + 2)) := by
        intro z i i1
        rcases Nat.lt_or_ge i c with l | l
        · exact hi i l
        · have : i = c := by omega
          subst this; exact z
      refine ⟨fun q3 => ⟨by omega, 0, rfl, Or.inl ⟨rfl, nx (fun y => q3 y.1)⟩⟩, fun q3 => ?_⟩
      refine sX12_in' _ _ rfl rfl (fun q4 q5 => ⟨fun z => absurd z (by decide), fun _ => ⟨by omega, 1, rfl, Or.inr ⟨rfl, c, by rw [w2, nI_tn (by omega)]; omega, q3, q4, q5⟩⟩⟩) (fun q4 => ⟨fun _ => ⟨by omega, 0, rfl, Or.inl ⟨rfl, nx (fun y => q4 y.2)⟩⟩, fun z => absurd rfl z⟩)
    · exact absurd (e.symm.trans q2) (by decide)
theorem sX12_isBoat' {S : JS} {Q : Int32 → JS → Prop} {a b n : Nat} (hs : jSh S) (hr : RowOk (jI S 47)) (hf : LF (jI S 47)) (hn : n < 60) (h1 : gGo (jI S 47) n a b → ∀ S', jFr [45, 58, 59] S S' → jFk 45 [27, 30, 31, 32] S S' → Q 1 S') (h0 : ¬ gGo (jI S 47) n a b → ∀ S', jFr [45, 58, 59] S S' → jFk 45 [27, 30, 31, 32] S S' → Q 0 S') : wX12_isBoat 45 (nI a) (nI b) (nI n) S Q := by
  unfold wX12_isBoat
  simp only [shA_45, shA_47, shZ_47, shR_45_2, shr_45_2, shR_45_3, shr_45_3, shR_45_4, shr_45_4, shR_45_5, shr_45_5, shR_45_7, shr_45_7, shR_45_16, shr_45_16, shR_45_18, shr_45_18, shR_45_19, shr_45_19, shR_45_21, shr_45_21, shR_45_22, shr_45_22, shR_45_25, shr_45_25, shR_45_26, shr_45_26, shR_45_28, shr_45_28, shR_45_29, shr_45_29, shR_45_33, shr_45_33, shR_45_34, shr_45_34, shR_45_35, shr_45_35, shR_45_36, shr_45_36, shR_45_37, shr_45_37, shR_45_38, shr_45_38, shR_45_39, shr_45_39, shR_45_40, shr_45_40, shR_45_42, shr_45_42, hs, ne_eq, not_false_eq_true, not_true_eq_false, reduceCtorEq, Nat.reduceEqDiff, forall_eq, true_and, and_true, true_implies, forall_const, implies_true, List.mem_cons, List.not_mem_nil, or_false, false_or, or_self, if_true, if_false, reduceIte, Nat.reduceAdd, Nat.reduceMul, Nat.reduceLT, false_implies, Decidable.not_not, bI_eq0, bI_eq1, upd_at, updL_at, Nat.succ_ne_zero, Int32.reduceToNatClampNeg, eq_self, i01, i10]
  simp (disch := omega) only [li_8, nI_add, nI_inT, nI_tn, ne_eq, not_false_eq_true, not_true_eq_false, reduceCtorEq, Nat.reduceEqDiff, forall_eq, true_and, and_true, true_implies, forall_const, implies_true, List.mem_cons, List.not_mem_nil, or_false, false_or, or_self, if_true, if_false, reduceIte, Nat.reduceAdd, Nat.reduceMul, Nat.reduceLT, false_implies, Decidable.not_not, bI_eq0, bI_eq1, upd_at, updL_at, Nat.succ_ne_zero, Int32.reduceToNatClampNeg, eq_self, i01, i10]
  refine ⟨fun q => h0 (fun z => q z.1) S (jFr.refl _ _) (jFk.refl _ _ _), fun q => ?_⟩
  refine sX12_isWedding' hs hr hn (fun hw => ⟨fun _ => h0 (fun z => z.2.1 hw) S (jFr.refl _ _) (jFk.refl _ _ _), fun z => absurd z (by decide)⟩) (fun hw => ⟨fun z => absurd rfl z, fun _ => ⟨shA_45 hs, ?_⟩⟩)
  refine sX12_tells hs hn hf (fun S1 f1 k1 => ⟨fun z => h0 (fun y => z y.2.2) S1 f1 k1, fun z => h1 ⟨q, hw, z⟩ S1 f1 k1⟩)
theorem Mdl.of {W : JS → (Int32 → JS → Prop) → Prop} {S S1 S2 : JS} {r : Int32} (h : Mdl W S1 r S2) (e : jN S1 = jN S) : Mdl W S r S2 := by
  unfold Mdl at h ⊢; rw [← e]; exact h
theorem sX11_ref2 {S : JS} {Q : Int32 → JS → Prop} {W : JS → (Int32 → JS → Prop) → Prop} {why : Int32} (i j : Nat) (hw : rfP why i j) (hI : Inv S) (hq : ∀ r S1, Mdl W S r S1 → Q r S1) (go : ∀ S1 Q', jA S1 45 12 → (∀ M, M = uI S1 45 0 0 → jSh M ∧ MW M ∧ (∀ h, h ∉ [0, 44, 45] → jI M h = jI S h) ∧ jFk 45 [0] S M ∧ ∀ N, jFr [45, 58, 59] M N → jFk 45 [27, 30, 31, 32] M N → wX12_tell 45 why N Q') → W S1 Q') : wX11_refuse 0 why S Q := by
  have hs := hI.1
  have hR := hI.refused i j hw
  refine sX11_refuse i j hw hs (hq _ _ ⟨by simp only [jN_uI, jN_uJ, jN_uR, jK_uI, jK_uJ, jK_uR, jZ_uI, jZ_uJ, jZ_uR, jR_uI, jR_uJ, jr_uI, jr_uJ, jI_uJ, jI_uR, jJ_uI, jJ_uR, jI_uI_eq, jI_uI_ne, jJ_uJ_eq, jJ_uJ_ne, jSh_uI, jSh_uJ, jA_uI, jA_uJ, jA_uR, jI_uIf_eq, jI_uIf_ne, jJ_uIf, jR_uIf, jr_uIf, jZ_uIf, jSh_uIf, jA_uIf]; exact hs, fun Q' hq' => go _ Q' (by simp only [jN_uI, jN_uJ, jN_uR, jK_uI, jK_uJ, jK_uR, jZ_uI, jZ_uJ, jZ_uR, jR_uI, jR_uJ, jr_uI, jr_uJ, jI_uJ, jI_uR, jJ_uI, jJ_uR, jI_uI_eq, jI_uI_ne, jJ_uJ_eq, jJ_uJ_ne, jSh_uI, jSh_uJ, jA_uI, jA_uJ, jA_uR, jI_uIf_eq, jI_uIf_ne, jJ_uIf, jR_uIf, jr_uIf, jZ_uIf, jSh_uIf, jA_uIf]; exact shA_45 hs) (fun M eM => ?_)⟩)
  have f : jFr [0, 44, 45] S M := by rw [eM]; exact (((jFr.refl _ _).uI (by decide)).uI (by decide)).uI (by decide)
  refine ⟨f.sh.mpr hs, hI.2.1.fr f (by decide) (by decide), f.I, by rw [eM]; exact (((jFk.refl _ _ _).oI (by decide)).oI (by decide)).sI (by decide), fun N fN kN => ?_⟩
  refine sX12_tell i j hw (fN.sh.mpr (f.sh.mpr hs)) (hq' _ ?_ ?_)
  · rw [← eM] at hR
    have e46 : jI N 46 = jI S 46 := by rw [fN.I 46 (by decide), f.I 46 (by decide)]
    refine hR.m (S' := uI (uI N 45 1 why) 46 j (jI N 46 j + 1)) (jFr.mono (H := [45, 58, 59]) ⟨fN.N, fN.K, fN.Z, fN.R, fun h hh => ⟨?_, fN.J h hh⟩⟩ (by decide)) (jFk.mono (E := [27, 30, 31, 32]) (fun e he => ⟨?_, kN.J e he⟩) (by decide))
    · have h45 : h ≠ 45 := fun z => hh (by rw [z]; decide)
      by_cases e : h = 46
      · subst e
        simp only [jN_uI, jN_uJ, jN_uR, jK_uI, jK_uJ, jK_uR, jZ_uI, jZ_uJ, jZ_uR, jR_uI, jR_uJ, jr_uI, jr_uJ, jI_uJ, jI_uR, jJ_uI, jJ_uR, jI_uI_eq, jI_uI_ne, jJ_uJ_eq, jJ_uJ_ne, jSh_uI, jSh_uJ, jA_uI, jA_uJ, jA_uR, jI_uIf_eq, jI_uIf_ne, jJ_uIf, jR_uIf, jr_uIf, jZ_uIf, jSh_uIf, jA_uIf, ne_eq, not_false_eq_true, not_true_eq_false, reduceCtorEq, Nat.reduceEqDiff, forall_eq, true_and, and_true, true_implies, forall_const, implies_true, List.mem_cons, List.not_mem_nil, or_false, false_or, or_self, if_true, if_false, reduceIte, Nat.reduceAdd, Nat.reduceMul, Nat.reduceLT, false_implies, Decidable.not_not, bI_eq0, bI_eq1, upd_at, updL_at, Nat.succ_ne_zero, Int32.reduceToNatClampNeg, eq_self, i01, i10, e46, f.I 46 (by decide)]
      · rw [jI_uI_ne e, jI_uI_ne e, jI_uI_ne h45, jI_uI_ne h45]; exact fN.I h hh
    · simp only [jN_uI, jN_uJ, jN_uR, jK_uI, jK_uJ, jK_uR, jZ_uI, jZ_uJ, jZ_uR, jR_uI, jR_uJ, jr_uI, jr_uJ, jI_uJ, jI_uR, jJ_uI, jJ_uR, jI_uI_eq, jI_uI_ne, jJ_uJ_eq, jJ_uJ_ne, jSh_uI, jSh_uJ, jA_uI, jA_uJ, jA_uR, jI_uIf_eq, jI_uIf_ne, jJ_uIf, jR_uIf, jr_uIf, jZ_uIf, jSh_uIf, jA_uIf, ne_eq, not_false_eq_true, not_true_eq_false, reduceCtorEq, Nat.reduceEqDiff, forall_eq, true_and, and_true, true_implies, forall_const, implies_true, List.mem_cons, List.not_mem_nil, or_false, false_or, or_self, if_true, if_false, reduceIte, Nat.reduceAdd, Nat.reduceMul, Nat.reduceLT, false_implies, Decidable.not_not, bI_eq0, bI_eq1, upd_at, updL_at, Nat.succ_ne_zero, Int32.reduceToNatClampNeg, eq_self, i01, i10]
      rw [kN.I e he]
  · show jN N ≤ _; rw [fN.N, f.N]; omega
theorem sX12_oarTest {M : JS} {Q : Int32 → JS → Prop} {r t g : Nat} (hs : jSh M) (hr : RowOk (jI M 47)) (hf : LF (jI M 47)) (e7 : jI M 47 7 = nI t) (ht : t < 59) (hg : jI M 47 (80 + t) = nI g) (g9 : g < gR (jI M 47)) (hrr : r < gR (jI M 47)) (h1 : gSt (jI M 47) t g r → ∀ S', jFr [45, 58, 59] M S' → jFk 45 [27, 30, 31, 32] M S' → wX12_oar_34 45 (nI r) (nI t) S' Q) (h0 : ¬ gSt (jI M 47) t g r → ∀ S', jFr [45, 58, 59] M S' → jFk 45 [27, 30, 31, 32] M S' → wX12_oar_30 45 S' Q) : (wX12_here 45 M (fun r15 S14 => (nI r = r15 → wX12_oar_34 45 (nI r) (nI t) S14 Q) ∧ (¬ nI r = r15 → jA S14 45 12 ∧ (wX12_here 45 S14 (fun r30 S29 => jA S29 45 12 ∧ (wX12_isBoat 45 r30 (nI r) (nI t) S29 (fun r33 S32 => (¬ r33 = 0 → wX12_oar_34 45 (nI r) (nI t) S32 Q) ∧ (r33 = 0 → wX12_oar_30 45 S32 Q)))))))) := by
  have hR := hr.1.2.1
  refine sX12_here hs e7 (by omega) ?_
  rw [hg, nI_eq' (by omega) (by omega)]
  refine ⟨fun e => h1 (Or.inl e) M (jFr.refl _ _) (jFk.refl _ _ _), fun e => ⟨shA_45 hs, sX12_here hs e7 (by omega) ?_⟩⟩
  rw [hg]
  refine ⟨shA_45 hs, sX12_isBoat' hs hr hf (by omega) (fun hgo S' f k => ⟨fun _ => h1 (Or.inr ⟨g9, hrr, e, ht, hgo⟩) S' f k, fun z => absurd z (by decide)⟩) (fun hgo S' f k => ⟨fun z => absurd rfl z, fun _ => h0 ?_ S' f k⟩)⟩
  rintro (z | z)
  · exact e z
  · exact hgo z.2.2.2.2
theorem q_oar {S : JS} {Q : Int32 → JS → Prop} {x : Int32} (hI : Inv S) (hq : ∀ r S1, Mdl (wX12_oar 45 x) S r S1 → Q r S1) : wX11_oar 0 x S Q := by
  have hs := hI.1
  have hm := hI.2.1
  have hR := hm.1.1.2.1
  obtain ⟨t, w, t1, t2, t3, tw⟩ := hm.trail
  obtain ⟨wt, wr, wc⟩ := tw t (Nat.le_refl _)
  unfold wX11_oar
  simp only [shA_0, shA_1, shR_0_0, shr_0_0, shR_0_1, shr_0_1, shR_0_2, shr_0_2, shR_0_3, shr_0_3, shR_0_4, shr_0_4, shR_0_5, shr_0_5, shR_0_6, shr_0_6, shR_0_7, shr_0_7, shR_0_8, shr_0_8, shR_0_9, shr_0_9, shR_1_4, shr_1_4, shR_1_5, shr_1_5, shR_1_6, shr_1_6, shR_1_9, shr_1_9, shR_1_11, shr_1_11, hs, ne_eq, not_false_eq_true, not_true_eq_false, reduceCtorEq, Nat.reduceEqDiff, forall_eq, true_and, and_true, true_implies, forall_const, implies_true, List.mem_cons, List.not_mem_nil, or_false, false_or, or_self, if_true, if_false, reduceIte, Nat.reduceAdd, Nat.reduceMul, Nat.reduceLT, false_implies, Decidable.not_not, bI_eq0, bI_eq1, upd_at, updL_at, Nat.succ_ne_zero, Int32.reduceToNatClampNeg, eq_self, i01, i10]
  refine sX9_hasRock' hs hm (fun r hr er => ⟨fun _ => ?_, fun y => absurd y (by decide)⟩) (fun hx => ⟨fun y => absurd rfl y, fun _ => ⟨shA_0 hs, ?_⟩⟩)
  · subst er
    simp only [shA_0, shA_1, shR_0_0, shr_0_0, shR_0_1, shr_0_1, shR_0_2, shr_0_2, shR_0_3, shr_0_3, shR_0_4, shr_0_4, shR_0_5, shr_0_5, shR_0_6, shr_0_6, shR_0_7, shr_0_7, shR_0_8, shr_0_8, shR_0_9, shr_0_9, shR_1_4, shr_1_4, shR_1_5, shr_1_5, shR_1_6, shr_1_6, shR_1_9, shr_1_9, shR_1_11, shr_1_11, hs, t3, ne_eq, not_false_eq_true, not_true_eq_false, reduceCtorEq, Nat.reduceEqDiff, forall_eq, true_and, and_true, true_implies, forall_const, implies_true, List.mem_cons, List.not_mem_nil, or_false, false_or, or_self, if_true, if_false, reduceIte, Nat.reduceAdd, Nat.reduceMul, Nat.reduceLT, false_implies, Decidable.not_not, bI_eq0, bI_eq1, upd_at, updL_at, Nat.succ_ne_zero, Int32.reduceToNatClampNeg, eq_self, i01, i10]
    rw [li_59, nI_lt' (by omega) (by omega)]
    refine ⟨fun ht => ?_, fun ht => ?_⟩
    · refine sX9_glassRock hs t3 t1 ?_
      rw [wc]
      simp only [shA_0, shA_1, shA_23, shR_0_0, shr_0_0, shR_0_1, shr_0_1, shR_0_2, shr_0_2, shR_0_3, shr_0_3, shR_0_4, shr_0_4, shR_0_5, shr_0_5, shR_0_6, shr_0_6, shR_0_7, shr_0_7, shR_0_8, shr_0_8, shR_0_9, shr_0_9, shR_1_4, shr_1_4, shR_1_5, shr_1_5, shR_1_6, shr_1_6, shR_1_9, shr_1_9, shR_1_11, shr_1_11, shR_23_0, shr_23_0, shR_23_1, shr_23_1, shR_23_2, shr_23_2, hs, t3, ne_eq, not_false_eq_true, not_true_eq_false, reduceCtorEq, Nat.reduceEqDiff, forall_eq, true_and, and_true, true_implies, forall_const, implies_true, List.mem_cons, List.not_mem_nil, or_false, false_or, or_self, if_true, if_false, reduceIte, Nat.reduceAdd, Nat.reduceMul, Nat.reduceLT, false_implies, Decidable.not_not, bI_eq0, bI_eq1, upd_at, updL_at, Nat.succ_ne_zero, Int32.reduceToNatClampNeg, eq_self, i01, i10]
      refine sX1_learnFrom hs hm hI.2.2.1 (by omega) (by omega) (fun S0 f0 B0 _ s0 => ?_)
      have hs0 := f0.sh.mpr hs
      have e47 : jI S0 47 = jI S 47 := f0.I 47 (by decide)
      have hI0 : Inv S0 := hI.c (f0.mono (by decide)) (jFk.of f0 (by decide)) B0 (hI.2.2.2.1.fr f0 (by decide) (by rw [f0.I 0 (by decide)]))
      have hq0 : ∀ r' S1, Mdl (wX12_oar 45 (nI r)) S0 r' S1 → Q r' S1 := fun r' S1 h => hq r' S1 (h.of f0.N)
      simp only [shA_0, shA_1, shR_0_0, shr_0_0, shR_0_1, shr_0_1, shR_0_2, shr_0_2, shR_0_3, shr_0_3, shR_0_4, shr_0_4, shR_0_5, shr_0_5, shR_0_6, shr_0_6, shR_0_7, shr_0_7, shR_0_8, shr_0_8, shR_0_9, shr_0_9, shR_1_4, shr_1_4, shR_1_5, shr_1_5, shR_1_6, shr_1_6, shR_1_9, shr_1_9, shR_1_11, shr_1_11, hs0, ne_eq, not_false_eq_true, not_true_eq_false, reduceCtorEq, Nat.reduceEqDiff, forall_eq, true_and, and_true, true_implies, forall_const, implies_true, List.mem_cons, List.not_mem_nil, or_false, false_or, or_self, if_true, if_false, reduceIte, Nat.reduceAdd, Nat.reduceMul, Nat.reduceLT, false_implies, Decidable.not_not, bI_eq0, bI_eq1, upd_at, updL_at, Nat.succ_ne_zero, Int32.reduceToNatClampNeg, eq_self, i01, i10]
      refine sX9_glassRock (t := t) hs0 (by rw [f0.I 1 (by decide)]; exact t3) t1 ?_
      rw [f0.I 11 (by decide), wc]
      simp only [shA_0, shA_1, shA_23, shR_0_0, shr_0_0, shR_0_1, shr_0_1, shR_0_2, shr_0_2, shR_0_3, shr_0_3, shR_0_4, shr_0_4, shR_0_5, shr_0_5, shR_0_6, shr_0_6, shR_0_7, shr_0_7, shR_0_8, shr_0_8, shR_0_9, shr_0_9, shR_1_4, shr_1_4, shR_1_5, shr_1_5, shR_1_6, shr_1_6, shR_1_9, shr_1_9, shR_1_11, shr_1_11, shR_23_0, shr_23_0, shR_23_1, shr_23_1, shR_23_2, shr_23_2, hs0, f0.I 1 (by decide), t3, ne_eq, not_false_eq_true, not_true_eq_false, reduceCtorEq, Nat.reduceEqDiff, forall_eq, true_and, and_true, true_implies, forall_const, implies_true, List.mem_cons, List.not_mem_nil, or_false, false_or, or_self, if_true, if_false, reduceIte, Nat.reduceAdd, Nat.reduceMul, Nat.reduceLT, false_implies, Decidable.not_not, bI_eq0, bI_eq1, upd_at, updL_at, Nat.succ_ne_zero, Int32.reduceToNatClampNeg, eq_self, i01, i10]
      refine sX1_steps hs0 (by omega) (by omega) (by rw [e47]; exact s0) (fun y hy => ?_)
      rw [e47] at hy
      have hyr := hy r (by omega)
      obtain ⟨q1, q2, q3, q4, q5, q6, q7, q8, q9⟩ := MW_iff.mp hI0.2.1
      refine sX11_hasBit (by omega) (fun hb => ⟨fun _ => ?_, fun y => absurd y (by decide)⟩) (fun hb => ⟨fun y => absurd rfl y, fun _ => ⟨shA_0 hs0, ?_⟩⟩)
      · have hst := hyr.mp hb
        simp only [shA_0, shA_1, shA_11, shZ_11, shR_0_0, shr_0_0, shR_0_1, shr_0_1, shR_0_2, shr_0_2, shR_0_3, shr_0_3, shR_0_4, shr_0_4, shR_0_5, shr_0_5, shR_0_6, shr_0_6, shR_0_7, shr_0_7, shR_0_8, shr_0_8, shR_0_9, shr_0_9, shR_1_4, shr_1_4, shR_1_5, shr_1_5, shR_1_6, shr_1_6, shR_1_9, shr_1_9, shR_1_11, shr_1_11, hs0, f0.I 1 (by decide), t3, nI_1, jN_uI, jN_uJ, jN_uR, jK_uI, jK_uJ, jK_uR, jZ_uI, jZ_uJ, jZ_uR, jR_uI, jR_uJ, jr_uI, jr_uJ, jI_uJ, jI_uR, jJ_uI, jJ_uR, jI_uI_eq, jI_uI_ne, jJ_uJ_eq, jJ_uJ_ne, jSh_uI, jSh_uJ, jA_uI, jA_uJ, jA_uR, jI_uIf_eq, jI_uIf_ne, jJ_uIf, jR_uIf, jr_uIf, jZ_uIf, jSh_uIf, jA_uIf, ne_eq, not_false_eq_true, not_true_eq_false, reduceCtorEq, Nat.reduceEqDiff, forall_eq, true_and, and_true, true_implies, forall_const, implies_true, List.mem_cons, List.not_mem_nil, or_false, false_or, or_self, if_true, if_false, reduceIte, Nat.reduceAdd, Nat.reduceMul, Nat.reduceLT, false_implies, Decidable.not_not, bI_eq0, bI_eq1, upd_at, updL_at, Nat.succ_ne_zero, Int32.reduceToNatClampNeg, eq_self, i01, i10]
        rw [nI_tn (by omega)]
        refine ⟨nI_in2 (by omega) (by omega), ?_⟩
        have g1 : jFr [1, 11] S0 (uI (uI S0 1 10 (nI (t + 1))) 11 (t + 1) (nI r)) := ((jFr.refl _ _).uI (by decide)).uI (by decide)
        have k1 : jFk 1 [10] S0 (uI (uI S0 1 10 (nI (t + 1))) 11 (t + 1) (nI r)) := ((jFk.refl _ _ _).sI (by decide)).oI (by decide)
        have i10 : jI (uI (uI S0 1 10 (nI (t + 1))) 11 (t + 1) (nI r)) 1 10 = nI (t + 1) := by simp only [jN_uI, jN_uJ, jN_uR, jK_uI, jK_uJ, jK_uR, jZ_uI, jZ_uJ, jZ_uR, jR_uI, jR_uJ, jr_uI, jr_uJ, jI_uJ, jI_uR, jJ_uI, jJ_uR, jI_uI_eq, jI_uI_ne, jJ_uJ_eq, jJ_uJ_ne, jSh_uI, jSh_uJ, jA_uI, jA_uJ, jA_uR, jI_uIf_eq, jI_uIf_ne, jJ_uIf, jR_uIf, jr_uIf, jZ_uIf, jSh_uIf, jA_uIf, ne_eq, not_false_eq_true, not_true_eq_false, reduceCtorEq, Nat.reduceEqDiff, forall_eq, true_and, and_true, true_implies, forall_const, implies_true, List.mem_cons, List.not_mem_nil, or_false, false_or, or_self, if_true, if_false, reduceIte, Nat.reduceAdd, Nat.reduceMul, Nat.reduceLT, false_implies, Decidable.not_not, bI_eq0, bI_eq1, upd_at, updL_at, Nat.succ_ne_zero, Int32.reduceToNatClampNeg, eq_self, i01, i10]
        have i11 : jI (uI (uI S0 1 10 (nI (t + 1))) 11 (t + 1) (nI r)) 11 = upd (jI S0 11) (t + 1) (nI r) := by simp only [jN_uI, jN_uJ, jN_uR, jK_uI, jK_uJ, jK_uR, jZ_uI, jZ_uJ, jZ_uR, jR_uI, jR_uJ, jr_uI, jr_uJ, jI_uJ, jI_uR, jJ_uI, jJ_uR, jI_uI_eq, jI_uI_ne, jJ_uJ_eq, jJ_uJ_ne, jSh_uI, jSh_uJ, jA_uI, jA_uJ, jA_uR, jI_uIf_eq, jI_uIf_ne, jJ_uIf, jR_uIf, jr_uIf, jZ_uIf, jSh_uIf, jA_uIf, ne_eq, not_false_eq_true, not_true_eq_false, reduceCtorEq, Nat.reduceEqDiff, forall_eq, true_and, and_true, true_implies, forall_const, implies_true, List.mem_cons, List.not_mem_nil, or_false, false_or, or_self, if_true, if_false, reduceIte, Nat.reduceAdd, Nat.reduceMul, Nat.reduceLT, false_implies, Decidable.not_not, bI_eq0, bI_eq1, upd_at, updL_at, Nat.succ_ne_zero, Int32.reduceToNatClampNeg, eq_self, i01, i10]
        generalize uI (uI S0 1 10 (nI (t + 1))) 11 (t + 1) (nI r) = S1 at g1 k1 i10 i11 ⊢
        refine sX11_acc hI0 g1 hq0 (fun S2 Q' hA k hq' => ?_)
        unfold wX12_oar
        refine ⟨hA, fun M eM => ?_⟩
        have hM := k M eM
        have hsM := hM.1
        have eM47 : jI M 47 = jI S 47 := by rw [hM.2.1.I 47 (by decide), g1.I 47 (by decide), e47]
        have hrM : RowOk (jI M 47) := by rw [eM47]; exact hm.1
        refine ⟨shA_45 hsM, sX12_isRock' hsM hrM (fun _ _ _ => ⟨fun _ => ?_, fun y => absurd y (by decide)⟩) (fun hx => absurd (rock_of hrM (by rw [eM47]; exact hr)) hx)⟩
        have tn7 : (7 : Int32).toNatClampNeg = 7 := rfl
        have vi : vp_in 7 5600 := nI_in2 (n := 7) (by omega) (by omega)
        have e7 : jI M 47 7 = nI t := by rw [eM47]; exact t2
        simp only [shA_45, shA_47, shZ_47, shR_45_2, shr_45_2, shR_45_3, shr_45_3, shR_45_4, shr_45_4, shR_45_5, shr_45_5, shR_45_7, shr_45_7, shR_45_16, shr_45_16, shR_45_18, shr_45_18, shR_45_19, shr_45_19, shR_45_21, shr_45_21, shR_45_22, shr_45_22, shR_45_25, shr_45_25, shR_45_26, shr_45_26, shR_45_28, shr_45_28, shR_45_29, shr_45_29, shR_45_33, shr_45_33, shR_45_34, shr_45_34, shR_45_35, shr_45_35, shR_45_36, shr_45_36, shR_45_37, shr_45_37, shR_45_38, shr_45_38, shR_45_39, shr_45_39, shR_45_40, shr_45_40, shR_45_42, shr_45_42, hsM, tn7, vi, e7, ne_eq, not_false_eq_true, not_true_eq_false, reduceCtorEq, Nat.reduceEqDiff, forall_eq, true_and, and_true, true_implies, forall_const, implies_true, List.mem_cons, List.not_mem_nil, or_false, false_or, or_self, if_true, if_false, reduceIte, Nat.reduceAdd, Nat.reduceMul, Nat.reduceLT, false_implies, Decidable.not_not, bI_eq0, bI_eq1, upd_at, updL_at, Nat.succ_ne_zero, Int32.reduceToNatClampNeg, eq_self, i01, i10]
        rw [li_59, nI_eq' (by omega) (by omega)]
        refine ⟨fun z => by omega, fun _ => ?_⟩
        refine sX12_oarTest (g := w t) hsM hrM (by rw [eM47]; exact hm.lf) e7 ht (by rw [eM47]; exact wr) (by rw [eM47]; exact wt) (by rw [eM47]; exact hr) (fun _ N fN kN => ?_) (fun h => by rw [eM47] at h; exact absurd hst h)
        have hsN := fN.sh.mpr hsM
        have eN47 : jI N 47 = jI S 47 := by rw [fN.I 47 (by decide), eM47]
        unfold wX12_oar_34
        simp only [shA_45, shA_47, shZ_47, shR_45_2, shr_45_2, shR_45_3, shr_45_3, shR_45_4, shr_45_4, shR_45_5, shr_45_5, shR_45_7, shr_45_7, shR_45_16, shr_45_16, shR_45_18, shr_45_18, shR_45_19, shr_45_19, shR_45_21, shr_45_21, shR_45_22, shr_45_22, shR_45_25, shr_45_25, shR_45_26, shr_45_26, shR_45_28, shr_45_28, shR_45_29, shr_45_29, shR_45_33, shr_45_33, shR_45_34, shr_45_34, shR_45_35, shr_45_35, shR_45_36, shr_45_36, shR_45_37, shr_45_37, shR_45_38, shr_45_38, shR_45_39, shr_45_39, shR_45_40, shr_45_40, shR_45_42, shr_45_42, hsN, tn7, vi, eN47, t2, nI_1, jN_uI, jN_uJ, jN_uR, jK_uI, jK_uJ, jK_uR, jZ_uI, jZ_uJ, jZ_uR, jR_uI, jR_uJ, jr_uI, jr_uJ, jI_uJ, jI_uR, jJ_uI, jJ_uR, jI_uI_eq, jI_uI_ne, jJ_uJ_eq, jJ_uJ_ne, jSh_uI, jSh_uJ, jA_uI, jA_uJ, jA_uR, jI_uIf_eq, jI_uIf_ne, jJ_uIf, jR_uIf, jr_uIf, jZ_uIf, jSh_uIf, jA_uIf, ne_eq, not_false_eq_true, not_true_eq_false, reduceCtorEq, Nat.reduceEqDiff, forall_eq, true_and, and_true, true_implies, forall_const, implies_true, List.mem_cons, List.not_mem_nil, or_false, false_or, or_self, if_true, if_false, reduceIte, Nat.reduceAdd, Nat.reduceMul, Nat.reduceLT, false_implies, Decidable.not_not, bI_eq0, bI_eq1, upd_at, updL_at, Nat.succ_ne_zero, Int32.reduceToNatClampNeg, eq_self, i01, i10]
        simp (disch := omega) only [li_80, nI_add, nI_1, nI_tn, nI_inT, ne_eq, not_false_eq_true, not_true_eq_false, reduceCtorEq, Nat.reduceEqDiff, forall_eq, true_and, and_true, true_implies, forall_const, implies_true, List.mem_cons, List.not_mem_nil, or_false, false_or, or_self, if_true, if_false, reduceIte, Nat.reduceAdd, Nat.reduceMul, Nat.reduceLT, false_implies, Decidable.not_not, bI_eq0, bI_eq1, upd_at, updL_at, Nat.succ_ne_zero, Int32.reduceToNatClampNeg, eq_self, i01, i10]
        refine sX12_tell0 (by omega) hsN ?_
        have f : jFr [0, 1, 11, 45, 47, 58, 59] S0 (uI (uI N 47 7 (nI (t + 1))) 47 (80 + t + 1) (nI r)) := ((((g1.mono (by decide)).tr (hM.2.1.mono (by decide))).tr (fN.mono (by decide))).uI (by decide)).uI (by decide)
        have g2 : jFr [0, 45, 47, 58, 59] S1 (uI (uI N 47 7 (nI (t + 1))) 47 (80 + t + 1) (nI r)) := (((hM.2.1.mono (by decide)).tr (fN.mono (by decide))).uI (by decide)).uI (by decide)
        have fX : jFr [45, 47, 58, 59] M (uI (uI N 47 7 (nI (t + 1))) 47 (80 + t + 1) (nI r)) := ((fN.mono (by decide)).uI (by decide)).uI (by decide)
        have kX : jFk 45 [9, 10, 11, 12, 14, 15, 17, 20, 23, 24, 27, 30, 31, 32, 41] M (uI (uI N 47 7 (nI (t + 1))) 47 (80 + t + 1) (nI r)) := ((kN.mono (by decide)).oI (by decide)).oI (by decide)
        have ex : ∀ j, jI (uI (uI N 47 7 (nI (t + 1))) 47 (80 + t + 1) (nI r)) 47 j = if j = 80 + t + 1 then nI r else if j = 7 then nI (t + 1) else jI S0 47 j := fun j => by simp only [jN_uI, jN_uJ, jN_uR, jK_uI, jK_uJ, jK_uR, jZ_uI, jZ_uJ, jZ_uR, jR_uI, jR_uJ, jr_uI, jr_uJ, jI_uJ, jI_uR, jJ_uI, jJ_uR, jI_uI_eq, jI_uI_ne, jJ_uJ_eq, jJ_uJ_ne, jSh_uI, jSh_uJ, jA_uI, jA_uJ, jA_uR, jI_uIf_eq, jI_uIf_ne, jJ_uIf, jR_uIf, jr_uIf, jZ_uIf, jSh_uIf, jA_uIf, ne_eq, not_false_eq_true, not_true_eq_false, reduceCtorEq, Nat.reduceEqDiff, forall_eq, true_and, and_true, true_implies, forall_const, implies_true, List.mem_cons, List.not_mem_nil, or_false, false_or, or_self, if_true, if_false, reduceIte, Nat.reduceAdd, Nat.reduceMul, Nat.reduceLT, false_implies, Decidable.not_not, bI_eq0, bI_eq1, upd_at, updL_at, Nat.succ_ne_zero, Int32.reduceToNatClampNeg, eq_self, i01, i10, upd_at, eN47, e47]
        generalize uI (uI N 47 7 (nI (t + 1))) 47 (80 + t + 1) (nI r) = X at f g2 fX kX ex ⊢
        have er : ∀ j, (j ≠ 7 ∧ j ≠ 80 + t + 1) → jI X 47 j = jI S0 47 j := fun j hj => by rw [ex, if_neg hj.2, if_neg hj.1]
        have k1' : jFk 1 [10] S0 X := k1.tr (jFk.of g2 (by decide))
        have r7 : jI X 47 7 = nI (t + 1) := by rw [ex, if_neg (by omega), if_pos rfl]
        have r8 : jI X 47 (80 + (t + 1)) = nI r := by rw [ex, if_pos (by omega)]
        have g : pT X (jI X 47) := by
          refine ⟨⟨t + 1, by omega, r7, fun n hn => ?_⟩, by rw [r7, g2.I 1 (by decide)]; exact i10, fun n hn => ?_⟩
          · rw [gR_c (er 0 (by omega))]
            by_cases e : n = t + 1
            · subst e; exact ⟨r, by rw [e47]; exact hr, r8⟩
            · rw [er _ (by omega), e47]
              obtain ⟨a1, a2, a3⟩ := tw n (by omega)
              exact ⟨_, a1, a2⟩
          · rw [g2.I 11 (by decide), i11, upd_at]
            by_cases e : n = t + 1
            · subst e; rw [if_pos rfl, r8]
            · rw [if_neg e, er _ (by omega)]; exact q7.2.2 n hn
        have fin := hI0.acc2 (g1.mono (by decide)) hM fX kX (MW_iff.mpr ⟨pR.c q1 (er 0 (by omega)) (k1'.I 0 (by decide)), pM.c q2 (er 1 (by omega)) (k1'.I 1 (by decide)), pU.c q3 (er 2 (by omega)) (k1'.I 2 (by decide)), pL.c q4 f (by decide) (fun k _ => er k (by omega)) (er 3 (by omega)) (er 4 (by omega)) (k1'.I 7 (by decide)) (k1'.I 8 (by decide)), pW.c q5 f (by decide) (er 0 (by omega)) (er 5 (by omega)) (fun k _ _ => er k (by omega)), pQ.c q6 f (by decide) (er 0 (by omega)) (er 6 (by omega)) (fun k _ _ => er k (by omega)), g, pS.c q8 (fun k _ _ => er k (by omega)) (k1'.J 3 (by decide)), pG.c q9 (fun k _ _ => er k (by omega)) (f.I 12 (by decide))⟩) (hI0.2.2.1.keep hI0.2.1 (f.I 27 (by decide)) (f.I 28 (by decide)) (er 0 (by omega)) (er 1 (by omega)) (er 4 (by omega)) (er 5 (by omega)) (fun k _ _ => er k (by omega)) (fun j _ _ k _ _ => er k (by omega)))
        exact hq' _ fin.1 fin.2
      · have hst : ¬ gSt (jI S 47) t (w t) r := fun z => hb (hyr.mpr z)
        refine sX11_ref2 2 3 (Or.inr (Or.inr (Or.inl ⟨rfl, rfl, rfl⟩))) hI0 hq0 (fun S1 Q' hA k => ?_)
        unfold wX12_oar
        refine ⟨hA, fun M eM => ?_⟩
        obtain ⟨hsM, hmM, eMI, kM, htl⟩ := k M eM
        have eM47 : jI M 47 = jI S 47 := by rw [eMI 47 (by decide), e47]
        refine ⟨shA_45 hsM, sX12_isRock' hsM hmM.1 (fun _ _ _ => ⟨fun _ => ?_, fun y => absurd y (by decide)⟩) (fun hx => absurd (rock_of hmM.1 (by rw [eM47]; exact hr)) hx)⟩
        have tn7 : (7 : Int32).toNatClampNeg = 7 := rfl
        have vi : vp_in 7 5600 := nI_in2 (n := 7) (by omega) (by omega)
        have e7 : jI M 47 7 = nI t := by rw [eM47]; exact t2
        simp only [shA_45, shA_47, shZ_47, shR_45_2, shr_45_2, shR_45_3, shr_45_3, shR_45_4, shr_45_4, shR_45_5, shr_45_5, shR_45_7, shr_45_7, shR_45_16, shr_45_16, shR_45_18, shr_45_18, shR_45_19, shr_45_19, shR_45_21, shr_45_21, shR_45_22, shr_45_22, shR_45_25, shr_45_25, shR_45_26, shr_45_26, shR_45_28, shr_45_28, shR_45_29, shr_45_29, shR_45_33, shr_45_33, shR_45_34, shr_45_34, shR_45_35, shr_45_35, shR_45_36, shr_45_36, shR_45_37, shr_45_37, shR_45_38, shr_45_38, shR_45_39, shr_45_39, shR_45_40, shr_45_40, shR_45_42, shr_45_42, hsM, tn7, vi, e7, ne_eq, not_false_eq_true, not_true_eq_false, reduceCtorEq, Nat.reduceEqDiff, forall_eq, true_and, and_true, true_implies, forall_const, implies_true, List.mem_cons, List.not_mem_nil, or_false, false_or, or_self, if_true, if_false, reduceIte, Nat.reduceAdd, Nat.reduceMul, Nat.reduceLT, false_implies, Decidable.not_not, bI_eq0, bI_eq1, upd_at, updL_at, Nat.succ_ne_zero, Int32.reduceToNatClampNeg, eq_self, i01, i10]
        rw [li_59, nI_eq' (by omega) (by omega)]
        refine ⟨fun z => by omega, fun _ => ?_⟩
        refine sX12_oarTest (g := w t) hsM hmM.1 hmM.lf e7 ht (by rw [eM47]; exact wr) (by rw [eM47]; exact wt) (by rw [eM47]; exact hr) (fun h => by rw [eM47] at h; exact absurd h hst) (fun _ N fN kN => ?_)
        unfold wX12_oar_30
        exact ⟨shA_45 (fN.sh.mpr hsM), htl N fN kN⟩
    · have : t = 59 := by omega
      subst this
      refine sX11_ref 2 3 (Or.inr (Or.inr (Or.inl ⟨rfl, rfl, rfl⟩))) hI hq (fun S1 Q' hA k => ?_)
      unfold wX12_oar wX12_oar_30
      refine ⟨hA, fun M eM => ?_⟩
      obtain ⟨hsM, hmM, eMI, kM, htl⟩ := k M eM
      have eM47 : jI M 47 = jI S 47 := eMI 47 (by decide)
      refine ⟨shA_45 hsM, sX12_isRock' hsM hmM.1 (fun _ _ _ => ⟨fun _ => ?_, fun y => absurd y (by decide)⟩) (fun hx => absurd (rock_of hmM.1 (by rw [eM47]; exact hr)) hx)⟩
      have tn7 : (7 : Int32).toNatClampNeg = 7 := rfl
      have vi : vp_in 7 5600 := nI_in2 (n := 7) (by omega) (by omega)
      simp only [shA_45, shA_47, shZ_47, shR_45_2, shr_45_2, shR_45_3, shr_45_3, shR_45_4, shr_45_4, shR_45_5, shr_45_5, shR_45_7, shr_45_7, shR_45_16, shr_45_16, shR_45_18, shr_45_18, shR_45_19, shr_45_19, shR_45_21, shr_45_21, shR_45_22, shr_45_22, shR_45_25, shr_45_25, shR_45_26, shr_45_26, shR_45_28, shr_45_28, shR_45_29, shr_45_29, shR_45_33, shr_45_33, shR_45_34, shr_45_34, shR_45_35, shr_45_35, shR_45_36, shr_45_36, shR_45_37, shr_45_37, shR_45_38, shr_45_38, shR_45_39, shr_45_39, shR_45_40, shr_45_40, shR_45_42, shr_45_42, hsM, tn7, vi, eM47, t2, ne_eq, not_false_eq_true, not_true_eq_false, reduceCtorEq, Nat.reduceEqDiff, forall_eq, true_and, and_true, true_implies, forall_const, implies_true, List.mem_cons, List.not_mem_nil, or_false, false_or, or_self, if_true, if_false, reduceIte, Nat.reduceAdd, Nat.reduceMul, Nat.reduceLT, false_implies, Decidable.not_not, bI_eq0, bI_eq1, upd_at, updL_at, Nat.succ_ne_zero, Int32.reduceToNatClampNeg, eq_self, i01, i10]
      exact ⟨fun _ => htl, fun z => absurd rfl z⟩
  · refine sX11_ref 1 2 (Or.inr (Or.inl ⟨rfl, rfl, rfl⟩)) hI hq (fun S1 Q' hA k => ?_)
    unfold wX12_oar
    refine ⟨hA, fun M eM => ?_⟩
    obtain ⟨hsM, hmM, eMI, kM, htl⟩ := k M eM
    have eM47 : jI M 47 = jI S 47 := eMI 47 (by decide)
    refine ⟨shA_45 hsM, sX12_isRock' hsM hmM.1 (fun a ha ea => ?_) (fun _ => ⟨fun z => absurd rfl z, fun _ => ⟨shA_45 hsM, htl⟩⟩)⟩
    rw [ea] at hx
    exact absurd (rock_of hm.1 (by rw [eM47] at ha; exact ha)) hx
