/-- the model's year: what a night does -/
theorem my_loop {S : JS} {Q : Int32 → JS → Prop} {seed r : Nat} {w : Nat → Nat} (hs : jSh S) (hm : MW S) (hr : r < gR (jI S 47)) (hse : seed ≤ 1000000) (hx : nxOk S 59) (hw : ∀ k, k ≤ 59 → ∃ s, gYk (jI S 47) seed r k s (w k)) (hj : jJ S 45 41 = lN seed) (h68 : jI S 68 0 = nI r) (h : ∀ S', jFr [45, 58, 59, 68] S S' → jFk 45 [27, 30, 31, 32, 41] S S' → (∀ k, k < 60 → jI S' 68 k = nI (w k)) → Q (nI (pcn (gHd w 60) 9)) (uI S' 45 1 0)) : wX12_year_43 45 (nI r) (nI (2 ^ r)) 0 S Q := by
  obtain ⟨R1, R2, R3⟩ := hm.1.1
  have w0 : w 0 = r := by obtain ⟨s, h1, h2⟩ := hw 0 (by omega); exact h2
  have wR : ∀ k, k ≤ 59 → w k < gR (jI S 47) := fun k hk => by obtain ⟨s, h1⟩ := hw k hk; exact (gYk_lt hr (by omega) h1).1
  unfold wX12_year_43
  refine jLoop.cnt 59 (fun k q => ∃ S' s, q = (45, nI (w k), nI (gHd w (k + 1)), nI k, S') ∧ jFr [45, 58, 59, 68] S S' ∧ jFk 45 [27, 30, 31, 32, 41] S S' ∧ gYk (jI S 47) seed r k s (w k) ∧ jJ S' 45 41 = lN s ∧ ∀ j, j ≤ k → jI S' 68 j = nI (w j)) 0 (by omega) ?_ ⟨S, seed, by rw [gHd, gHd, w0, Nat.zero_or]; rfl, jFr.refl _ _, jFk.refl _ _ _, ⟨rfl, w0⟩, hj, fun j hj => by rw [show j = 0 by omega, w0]; exact h68⟩
  rintro k _ hk ⟨S1, s, rfl, f1, k1, y1, j1, d1⟩
  have hs1 := f1.sh.mpr hs
  unfold bX12_year_43
  simp only
  rw [li_59, nI_le' (by omega) (by omega)]
  refine ⟨fun z => ?_, fun z => ?_⟩
  · have : k = 59 := by omega
    subst this
    have h5 := gHd_lt (w := w) (k := 60) (fun j hj => by have := wR j (by omega); omega)
    have fin := h S1 f1 k1 (fun j hj => d1 j (by omega))
    have pb := pcn_b (gHd w 60) 9
    unfold wX12_year_162
    refine jLoop.cnt 9 (fun c q => q = (45, nI (gHd w 60), nI (pcn (gHd w 60) c), nI c, S1)) 0 (by omega) ?_ rfl
    rintro c _ hc rfl
    unfold bX12_year_162
    simp only
    rw [li_9, nI_le' (by omega) (by omega)]
    refine ⟨fun z2 => ⟨shA_45 hs1, ?_⟩, fun z2 => ?_⟩
    · rw [show c = 9 by omega]; exact sX12_tell0 (by omega) hs1 fin
    · rw [hb_eq (by omega), bt_nI (by omega)]
      have e : nI (pcn (gHd w 60) c) + (if (gHd w 60).testBit c = true then (1 : Int32) else 0) = nI (pcn (gHd w 60) (c + 1)) := by
        rw [pcn]
        split
        · exact nI_1 _
        · rw [li_0, nI_add]
      rw [e, nI_1]
      exact nm_e (nm_e ⟨by omega, rfl⟩)
  have vR := wR k (by omega)
  obtain ⟨_, sb⟩ := gYk_lt hr (by omega) y1
  have hxx := hx k (w k) (by omega) vR
  have wlb := gWt_b (row := jI S 47) (n := k) (a := w k) (gR (jI S 47))
  have sl : ∀ c, c < gR (jI S 47) → ¬ c = w k → (bt (jI S 60 (9 * k + w k)) c = true ↔ gSl (jI S 47) k (w k) c) := fun c hc hne => by
    rw [hxx c (by omega)]; unfold gSt
    exact ⟨fun y => y.elim (fun e => absurd e hne) id, Or.inr⟩
  unfold wX12_year_50
  refine jLoop.cnt (gR (jI S 47)) (fun c q => ∃ S', q = (45, nI (w k), nI (gHd w (k + 1)), nI k, nI (10 + gWt (jI S 47) k (w k) c), nI c, S') ∧ jFr [45, 58, 59, 68] S S' ∧ jFk 45 [27, 30, 31, 32, 41] S S' ∧ jJ S' 45 41 = lN s ∧ ∀ j, j ≤ k → jI S' 68 j = nI (w j)) 0 (by omega) ?_ ⟨S1, rfl, f1, k1, j1, d1⟩
  rintro c _ hc ⟨S2, rfl, f2, k2, j2, d2⟩
  have hs2 := f2.sh.mpr hs
  have hm2 : MW S2 := hm.fr f2 (by decide) (by decide)
  have e27 : jI S2 47 = jI S 47 := f2.I 47 (by decide)
  unfold bX12_year_50 wX12_year_76 wX12_year_77
  refine ⟨shA_45 hs2, rk_of hs hm f2 (by decide) ?_⟩
  rw [nI_le' (by omega) (by omega), nI_eq' (by omega) (by omega)]
  refine ⟨fun z2 => ?_, fun z2 => ⟨fun z3 => ?_, fun z3 => ?_⟩⟩
  · have : c = gR (jI S 47) := by omega
    subst this
    have hdl : gDr s ≤ 1000003 := by unfold gDr; omega
    have nz : ¬ (nI (10 + gWt (jI S 47) k (w k) (gR (jI S 47)))).toInt64 = 0 := by
      rw [nI_toL (by omega), show (0 : Int64) = lN 0 from rfl, lN_eq' (by omega) (by omega)]; omega
    simp only [shA_45, shR_45_2, shr_45_2, shR_45_3, shr_45_3, shR_45_4, shr_45_4, shR_45_5, shr_45_5, shR_45_7, shr_45_7, shR_45_16, shr_45_16, shR_45_18, shr_45_18, shR_45_19, shr_45_19, shR_45_21, shr_45_21, shR_45_22, shr_45_22, shR_45_25, shr_45_25, shR_45_26, shr_45_26, shR_45_28, shr_45_28, shR_45_29, shr_45_29, shR_45_33, shr_45_33, shR_45_34, shr_45_34, shR_45_35, shr_45_35, shR_45_36, shr_45_36, shR_45_37, shr_45_37, shR_45_38, shr_45_38, shR_45_39, shr_45_39, shR_45_40, shr_45_40, shR_45_42, shr_45_42, hs2, j2, dr_l sb, nz, jN_uI, jN_uJ, jN_uR, jK_uI, jK_uJ, jK_uR, jZ_uI, jZ_uJ, jZ_uR, jR_uI, jR_uJ, jr_uI, jr_uJ, jI_uJ, jI_uR, jJ_uI, jJ_uR, jI_uI_eq, jI_uI_ne, jJ_uJ_eq, jJ_uJ_ne, jSh_uI, jSh_uJ, jA_uI, jA_uJ, jA_uR, jI_uIf_eq, jI_uIf_ne, jJ_uIf, jR_uIf, jr_uIf, jZ_uIf, jSh_uIf, jA_uIf, ne_eq, not_false_eq_true, not_true_eq_false, reduceCtorEq, Nat.reduceEqDiff, forall_eq, true_and, and_true, true_implies, forall_const, implies_true, List.mem_cons, List.not_mem_nil, or_false, false_or, or_self, if_true, if_false, reduceIte, Nat.reduceAdd, Nat.reduceMul, Nat.reduceLT, false_implies, Decidable.not_not, bI_eq0, bI_eq1, upd_at, updL_at, Nat.succ_ne_zero, Int32.reduceToNatClampNeg, eq_self, i01, i10]
    rw [dr_t hdl (by omega) (by omega)]
    refine ⟨by decide, ?_⟩
    generalize ht : gDr s % (10 + gWt (jI S 47) k (w k) (gR (jI S 47))) = t
    have ht9 : t < 1000 := by rw [← ht]; have := Nat.mod_lt (gDr s) (show 10 + gWt (jI S 47) k (w k) (gR (jI S 47)) > 0 by omega); omega
    have f3 : jFr [45, 58, 59, 68] S (uJ S2 45 41 (lN (gDr s))) := f2.uJ (by decide)
    have k3 : jFk 45 [27, 30, 31, 32, 41] S (uJ S2 45 41 (lN (gDr s))) := k2.sJ (by decide)
    have j3 : jJ (uJ S2 45 41 (lN (gDr s))) 45 41 = lN (gDr s) := by simp only [jN_uI, jN_uJ, jN_uR, jK_uI, jK_uJ, jK_uR, jZ_uI, jZ_uJ, jZ_uR, jR_uI, jR_uJ, jr_uI, jr_uJ, jI_uJ, jI_uR, jJ_uI, jJ_uR, jI_uI_eq, jI_uI_ne, jJ_uJ_eq, jJ_uJ_ne, jSh_uI, jSh_uJ, jA_uI, jA_uJ, jA_uR, jI_uIf_eq, jI_uIf_ne, jJ_uIf, jR_uIf, jr_uIf, jZ_uIf, jSh_uIf, jA_uIf, ne_eq, not_false_eq_true, not_true_eq_false, reduceCtorEq, Nat.reduceEqDiff, forall_eq, true_and, and_true, true_implies, forall_const, implies_true, List.mem_cons, List.not_mem_nil, or_false, false_or, or_self, if_true, if_false, reduceIte, Nat.reduceAdd, Nat.reduceMul, Nat.reduceLT, false_implies, Decidable.not_not, bI_eq0, bI_eq1, upd_at, updL_at, Nat.succ_ne_zero, Int32.reduceToNatClampNeg, eq_self, i01, i10]
    have d3 : ∀ j, j ≤ k → jI (uJ S2 45 41 (lN (gDr s))) 68 j = nI (w j) := fun j hj => by simp only [jN_uI, jN_uJ, jN_uR, jK_uI, jK_uJ, jK_uR, jZ_uI, jZ_uJ, jZ_uR, jR_uI, jR_uJ, jr_uI, jr_uJ, jI_uJ, jI_uR, jJ_uI, jJ_uR, jI_uI_eq, jI_uI_ne, jJ_uJ_eq, jJ_uJ_ne, jSh_uI, jSh_uJ, jA_uI, jA_uJ, jA_uR, jI_uIf_eq, jI_uIf_ne, jJ_uIf, jR_uIf, jr_uIf, jZ_uIf, jSh_uIf, jA_uIf]; exact d2 j hj
    generalize uJ S2 45 41 (lN (gDr s)) = S3 at f3 k3 j3 d3 ⊢
    obtain ⟨s1, y2⟩ := hw (k + 1) (by omega)
    have fin : ∀ S4, jFr [45, 58, 59, 68] S S4 → jFk 45 [27, 30, 31, 32, 41] S S4 → jJ S4 45 41 = lN (gDr s) → (∀ j, j ≤ k → jI S4 68 j = nI (w j)) → ∀ q, nxP (jI S 47) k (w k) t q → wX12_year_141 (fun l0 l3 l4 l5 S_1 => k < 59 ∧ ∃ S' s, (l0, l3, l4, l5, S_1) = (45, nI (w (k + 1)), nI (gHd w (k + 1 + 1)), nI (k + 1), S') ∧ jFr [45, 58, 59, 68] S S' ∧ jFk 45 [27, 30, 31, 32, 41] S S' ∧ gYk (jI S 47) seed r (k + 1) s (w (k + 1)) ∧ jJ S' 45 41 = lN s ∧ ∀ j, j ≤ k + 1 → jI S' 68 j = nI (w j)) 45 (nI (gHd w (k + 1))) (nI k) (nI q) S4 Q := by
      intro S4 f4 k4 j4 d4 q hq
      have hs4 := f4.sh.mpr hs
      have yk : gYk (jI S 47) seed r (k + 1) (gDr s) q := ⟨s, w k, y1, rfl, by rw [ht]; exact hq⟩
      obtain ⟨e1, e2⟩ := gYk_uniq yk y2
      have qR := gYk_lt hr (by omega) yk
      unfold wX12_year_141
      simp only [shA_45, shA_68, shZ_68, shR_45_2, shr_45_2, shR_45_3, shr_45_3, shR_45_4, shr_45_4, shR_45_5, shr_45_5, shR_45_7, shr_45_7, shR_45_16, shr_45_16, shR_45_18, shr_45_18, shR_45_19, shr_45_19, shR_45_21, shr_45_21, shR_45_22, shr_45_22, shR_45_25, shr_45_25, shR_45_26, shr_45_26, shR_45_28, shr_45_28, shR_45_29, shr_45_29, shR_45_33, shr_45_33, shR_45_34, shr_45_34, shR_45_35, shr_45_35, shR_45_36, shr_45_36, shR_45_37, shr_45_37, shR_45_38, shr_45_38, shR_45_39, shr_45_39, shR_45_40, shr_45_40, shR_45_42, shr_45_42, hs4, nI_1, ne_eq, not_false_eq_true, not_true_eq_false, reduceCtorEq, Nat.reduceEqDiff, forall_eq, true_and, and_true, true_implies, forall_const, implies_true, List.mem_cons, List.not_mem_nil, or_false, false_or, or_self, if_true, if_false, reduceIte, Nat.reduceAdd, Nat.reduceMul, Nat.reduceLT, false_implies, Decidable.not_not, bI_eq0, bI_eq1, upd_at, updL_at, Nat.succ_ne_zero, Int32.reduceToNatClampNeg, eq_self, i01, i10]
      rw [nI_tn (by omega), one_shl _ (by omega), nx_or]
      refine ⟨nI_in2 (by omega) (by omega), by omega, _, gDr s, by rw [e2]; rfl, f4.uI (by decide), k4.oI (by decide), by rw [← e2]; exact yk, by simp only [jN_uI, jN_uJ, jN_uR, jK_uI, jK_uJ, jK_uR, jZ_uI, jZ_uJ, jZ_uR, jR_uI, jR_uJ, jr_uI, jr_uJ, jI_uJ, jI_uR, jJ_uI, jJ_uR, jI_uI_eq, jI_uI_ne, jJ_uJ_eq, jJ_uJ_ne, jSh_uI, jSh_uJ, jA_uI, jA_uJ, jA_uR, jI_uIf_eq, jI_uIf_ne, jJ_uIf, jR_uIf, jr_uIf, jZ_uIf, jSh_uIf, jA_uIf]; exact j4, fun j hj => ?_⟩
      simp only [jN_uI, jN_uJ, jN_uR, jK_uI, jK_uJ, jK_uR, jZ_uI, jZ_uJ, jZ_uR, jR_uI, jR_uJ, jr_uI, jr_uJ, jI_uJ, jI_uR, jJ_uI, jJ_uR, jI_uI_eq, jI_uI_ne, jJ_uJ_eq, jJ_uJ_ne, jSh_uI, jSh_uJ, jA_uI, jA_uJ, jA_uR, jI_uIf_eq, jI_uIf_ne, jJ_uIf, jR_uIf, jr_uIf, jZ_uIf, jSh_uIf, jA_uIf, ne_eq, not_false_eq_true, not_true_eq_false, reduceCtorEq, Nat.reduceEqDiff, forall_eq, true_and, and_true, true_implies, forall_const, implies_true, List.mem_cons, List.not_mem_nil, or_false, false_or, or_self, if_true, if_false, reduceIte, Nat.reduceAdd, Nat.reduceMul, Nat.reduceLT, false_implies, Decidable.not_not, bI_eq0, bI_eq1, upd_at, updL_at, Nat.succ_ne_zero, Int32.reduceToNatClampNeg, eq_self, i01, i10]
      split
      · rename_i e; rw [e]
      · exact d4 j (by omega)
    unfold wX12_year_102
    refine jLoop.cnt (gR (jI S 47)) (fun c q => ∃ S' its q', q = (45, nI (w k), nI (gHd w (k + 1)), nI k, its, nI q', nI c, S') ∧ jFr [45, 58, 59, 68] S S' ∧ jFk 45 [27, 30, 31, 32, 41] S S' ∧ jJ S' 45 41 = lN (gDr s) ∧ (∀ j, j ≤ k → jI S' 68 j = nI (w j)) ∧ ((its = nI (t - gWt (jI S 47) k (w k) c) ∧ gWt (jI S 47) k (w k) c ≤ t ∧ q' = w k) ∨ (its < 0 ∧ nxP (jI S 47) k (w k) t q'))) 0 (by omega) ?_ ⟨S3, nI t, w k, rfl, f3, k3, j3, d3, Or.inl ⟨by rw [gWt]; rfl, by rw [gWt]; omega, rfl⟩⟩
    rintro c _ hc ⟨S4, its, q', rfl, f4, k4, j4, d4, hi⟩
    have hs4 := f4.sh.mpr hs
    have hm4 : MW S4 := hm.fr f4 (by decide) (by decide)
    have e47 : jI S4 47 = jI S 47 := f4.I 47 (by decide)
    have hwl := gWl_b (jI S 47) k (w k) c
    unfold bX12_year_102 wX12_year_130
    refine ⟨shA_45 hs4, rk_of hs hm f4 (by decide) ?_⟩
    rw [nI_le' (by omega) (by omega), nI_eq' (by omega) (by omega)]
    refine ⟨fun z4 => fin S4 f4 k4 j4 d4 q' ?_, fun z4 => ⟨fun z5 => fin S4 f4 k4 j4 d4 q' ?_, fun z5 => ?_⟩⟩
    · rcases hi with ⟨_, i2, i3⟩ | ⟨_, i2⟩
      · rw [show c = gR (jI S 47) by omega] at i2; exact Or.inr ⟨i2, i3⟩
      · exact i2
    · rcases hi with ⟨i1, _⟩ | ⟨_, i2⟩
      · rw [i1] at z5; exact absurd z5 (nI_pos (by omega))
      · exact i2
    · rcases hi with ⟨i1, i2, i3⟩ | ⟨i1, _⟩
      · subst i1; subst i3
        -- one rock more
        have go : ∀ S5, jFr [45, 58, 59, 68] S S5 → jFk 45 [27, 30, 31, 32, 41] S S5 → jJ S5 45 41 = lN (gDr s) → (∀ j, j ≤ k → jI S5 68 j = nI (w j)) → ∀ X, wX12_year_131 X (fun l0 l3 l4 l5 l7 l8 l9 S_1 => c < gR (jI S 47) ∧ ∃ S' its q', (l0, l3, l4, l5, l7, l8, l9, S_1) = (45, nI (w k), nI (gHd w (k + 1)), nI k, its, nI q', nI (c + 1), S') ∧ jFr [45, 58, 59, 68] S S' ∧ jFk 45 [27, 30, 31, 32, 41] S S' ∧ jJ S' 45 41 = lN (gDr s) ∧ (∀ j, j ≤ k → jI S' 68 j = nI (w j)) ∧ ((its = nI (t - gWt (jI S 47) k (w k) (c + 1)) ∧ gWt (jI S 47) k (w k) (c + 1) ≤ t ∧ q' = w k) ∨ (its < 0 ∧ nxP (jI S 47) k (w k) t q'))) 45 (nI (w k)) (nI (gHd w (k + 1))) (nI k) (nI (w k)) (nI c) (nI (gWl (jI S 47) k (w k) c)) (nI (t - gWt (jI S 47) k (w k) c)) S5 Q := by
          intro S5 f5 k5 j5 d5 X
          unfold wX12_year_131 wX12_year_138
          refine nm_e ?_
          rw [nI_1]
          rcases Nat.lt_or_ge (t - gWt (jI S 47) k (w k) c) (gWl (jI S 47) k (w k) c) with l | l
          · have neg := pk_sneg (a := t - gWt (jI S 47) k (w k) c) (b := gWl (jI S 47) k (w k) c) (by omega) l
            refine ⟨fun q => by lia, fun _ => nm_e ⟨by omega, S5, _, c, rfl, f5, k5, j5, d5, Or.inr ⟨neg, Or.inl ⟨⟨by show t < gWt (jI S 47) k (w k) (c + 1); rw [gWt]; omega, fun p hp y => ?_⟩, by omega⟩⟩⟩⟩
            have y : t < gWt (jI S 47) k (w k) (p + 1) := y
            have := gWt_mono (row := jI S 47) (n := k) (a := w k) (j := p + 1) (c - (p + 1))
            rw [show p + 1 + (c - (p + 1)) = c by omega] at this; omega
          · rw [nI_sub l]
            refine ⟨fun _ => nm_e ⟨by omega, S5, _, w k, rfl, f5, k5, j5, d5, Or.inl ⟨by rw [gWt, Nat.sub_sub], by rw [gWt]; omega, rfl⟩⟩, fun q => absurd (nI_nn (by omega)) q⟩
        refine ⟨fun z6 => ?_, fun z6 => ?_⟩
        · have := go S4 f4 k4 j4 d4
          rw [gWl_f (fun y => y.2.2.1 z6)] at this; exact this _
        · simp only [shA_45, shA_60, shZ_60, shR_45_2, shr_45_2, shR_45_3, shr_45_3, shR_45_4, shr_45_4, shR_45_5, shr_45_5, shR_45_7, shr_45_7, shR_45_16, shr_45_16, shR_45_18, shr_45_18, shR_45_19, shr_45_19, shR_45_21, shr_45_21, shR_45_22, shr_45_22, shR_45_25, shr_45_25, shR_45_26, shr_45_26, shR_45_28, shr_45_28, shR_45_29, shr_45_29, shR_45_33, shr_45_33, shR_45_34, shr_45_34, shR_45_35, shr_45_35, shR_45_36, shr_45_36, shR_45_37, shr_45_37, shR_45_38, shr_45_38, shR_45_39, shr_45_39, shR_45_40, shr_45_40, shR_45_42, shr_45_42, hs4, f4.I 60 (by decide), ne_eq, not_false_eq_true, not_true_eq_false, reduceCtorEq, Nat.reduceEqDiff, forall_eq, true_and, and_true, true_implies, forall_const, implies_true, List.mem_cons, List.not_mem_nil, or_false, false_or, or_self, if_true, if_false, reduceIte, Nat.reduceAdd, Nat.reduceMul, Nat.reduceLT, false_implies, Decidable.not_not, bI_eq0, bI_eq1, upd_at, updL_at, Nat.succ_ne_zero, Int32.reduceToNatClampNeg, eq_self, i01, i10]
          simp (disch := omega) only [li_9, nI_add, nI_mul, nI_inT, nI_tn, ne_eq, not_false_eq_true, not_true_eq_false, reduceCtorEq, Nat.reduceEqDiff, forall_eq, true_and, and_true, true_implies, forall_const, implies_true, List.mem_cons, List.not_mem_nil, or_false, false_or, or_self, if_true, if_false, reduceIte, Nat.reduceAdd, Nat.reduceMul, Nat.reduceLT, false_implies, Decidable.not_not, bI_eq0, bI_eq1, upd_at, updL_at, Nat.succ_ne_zero, Int32.reduceToNatClampNeg, eq_self, i01, i10]
          refine sX12_is (by omega) (fun hb => ⟨fun q => absurd q (by decide), fun _ => ⟨shA_45 hs4, ?_⟩⟩) (fun hb => ⟨fun _ => ?_, fun q => absurd rfl q⟩)
          · have hg := (sl c (by omega) z6).mp hb
            refine sX12_tells hs4 (by omega) hm4.lf (fun S5 f5 k5 => ?_)
            rw [e47, (gWl_t hg).1]
            exact go S5 (f4.tr (f5.mono (by decide))) (k4.tr (k5.mono (by decide))) (by rw [k5.J 41 (by decide)]; exact j4) (fun j hj => by rw [f5.I 68 (by decide)]; exact d4 j hj) _
          · have := go S4 f4 k4 j4 d4
            rw [gWl_f (fun y => hb ((sl c (by omega) z6).mpr y))] at this; exact this _
      · exact absurd i1 z5
  · rw [li_0, nI_add, nI_1]
    refine nm_e (nm_e ⟨by omega, S2, ?_, f2, k2, j2, d2⟩)
    rw [gWt, gWl_f (fun y => y.2.2.1 z3)]; rfl
  · simp only [shA_45, shA_60, shZ_60, shR_45_2, shr_45_2, shR_45_3, shr_45_3, shR_45_4, shr_45_4, shR_45_5, shr_45_5, shR_45_7, shr_45_7, shR_45_16, shr_45_16, shR_45_18, shr_45_18, shR_45_19, shr_45_19, shR_45_21, shr_45_21, shR_45_22, shr_45_22, shR_45_25, shr_45_25, shR_45_26, shr_45_26, shR_45_28, shr_45_28, shR_45_29, shr_45_29, shR_45_33, shr_45_33, shR_45_34, shr_45_34, shR_45_35, shr_45_35, shR_45_36, shr_45_36, shR_45_37, shr_45_37, shR_45_38, shr_45_38, shR_45_39, shr_45_39, shR_45_40, shr_45_40, shR_45_42, shr_45_42, hs2, f2.I 60 (by decide), ne_eq, not_false_eq_true, not_true_eq_false, reduceCtorEq, Nat.reduceEqDiff, forall_eq, true_and, and_true, true_implies, forall_const, implies_true, List.mem_cons, List.not_mem_nil, or_false, false_or, or_self, if_true, if_false, reduceIte, Nat.reduceAdd, Nat.reduceMul, Nat.reduceLT, false_implies, Decidable.not_not, bI_eq0, bI_eq1, upd_at, updL_at, Nat.succ_ne_zero, Int32.reduceToNatClampNeg, eq_self, i01, i10]
    simp (disch := omega) only [li_9, nI_add, nI_mul, nI_inT, nI_tn, ne_eq, not_false_eq_true, not_true_eq_false, reduceCtorEq, Nat.reduceEqDiff, forall_eq, true_and, and_true, true_implies, forall_const, implies_true, List.mem_cons, List.not_mem_nil, or_false, false_or, or_self, if_true, if_false, reduceIte, Nat.reduceAdd, Nat.reduceMul, Nat.reduceLT, false_implies, Decidable.not_not, bI_eq0, bI_eq1, upd_at, updL_at, Nat.succ_ne_zero, Int32.reduceToNatClampNeg, eq_self, i01, i10]
    refine sX12_is (by omega) (fun hb => ⟨fun q => absurd q (by decide), fun _ => ⟨shA_45 hs2, ?_⟩⟩) (fun hb => ⟨fun _ => ?_, fun q => absurd rfl q⟩)
    · have hg := (sl c (by omega) z3).mp hb
      refine sX12_tells hs2 (by omega) hm2.lf (fun S3 f3 k3 => ?_)
      rw [e27, (gWl_t hg).1, nI_add, nI_1]
      exact ⟨by omega, S3, by rw [gWt, Nat.add_assoc], f2.tr (f3.mono (by decide)), k2.tr (k3.mono (by decide)), by rw [k3.J 41 (by decide)]; exact j2, fun j hj => by rw [f3.I 68 (by decide)]; exact d2 j hj⟩
    · rw [show nI (10 + gWt (jI S 47) k (w k) c) + 0 = nI (10 + gWt (jI S 47) k (w k) c) from by rw [li_0, nI_add, Nat.add_zero], nI_1]
      refine ⟨by omega, S2, ?_, f2, k2, j2, d2⟩
      rw [gWt, gWl_f (fun y => hb ((sl c (by omega) z3).mpr y))]; rfl
theorem q_year {S : JS} {Q : Int32 → JS → Prop} {x y : Int32} (hI : Inv S) (hq : ∀ r S1, Mdl (wX12_year 45 x y) S r S1 → Q r S1) : wX11_year 0 x y S Q := by
  have hs := hI.1
  have hm := hI.2.1
  have no1 : ¬ (0 ≤ x ∧ x ≤ 1000000) → wX11_year_5 0 S Q := by
    intro hx
    unfold wX11_year_5
    refine ⟨shA_0 hs, sX11_refuse 0 1 (Or.inl ⟨rfl, rfl, rfl⟩) hs (hq _ _ ⟨by simp only [jN_uI, jN_uJ, jN_uR, jK_uI, jK_uJ, jK_uR, jZ_uI, jZ_uJ, jZ_uR, jR_uI, jR_uJ, jr_uI, jr_uJ, jI_uJ, jI_uR, jJ_uI, jJ_uR, jI_uI_eq, jI_uI_ne, jJ_uJ_eq, jJ_uJ_ne, jSh_uI, jSh_uJ, jA_uI, jA_uJ, jA_uR, jI_uIf_eq, jI_uIf_ne, jJ_uIf, jR_uIf, jr_uIf, jZ_uIf, jSh_uIf, jA_uIf]; exact hs, fun Q' hq' => ?_⟩)⟩
    have hR := hI.refused (why := -1) 0 1 (Or.inl ⟨rfl, rfl, rfl⟩)
    unfold wX12_year
    simp only [shA_45 hs, jN_uI, jN_uJ, jN_uR, jK_uI, jK_uJ, jK_uR, jZ_uI, jZ_uJ, jZ_uR, jR_uI, jR_uJ, jr_uI, jr_uJ, jI_uJ, jI_uR, jJ_uI, jJ_uR, jI_uI_eq, jI_uI_ne, jJ_uJ_eq, jJ_uJ_ne, jSh_uI, jSh_uJ, jA_uI, jA_uJ, jA_uR, jI_uIf_eq, jI_uIf_ne, jJ_uIf, jR_uIf, jr_uIf, jZ_uIf, jSh_uIf, jA_uIf, ne_eq, not_false_eq_true, not_true_eq_false, reduceCtorEq, Nat.reduceEqDiff, forall_eq, true_and, and_true, true_implies, forall_const, implies_true, List.mem_cons, List.not_mem_nil, or_false, false_or, or_self, if_true, if_false, reduceIte, Nat.reduceAdd, Nat.reduceMul, Nat.reduceLT, false_implies, Decidable.not_not, bI_eq0, bI_eq1, upd_at, updL_at, Nat.succ_ne_zero, Int32.reduceToNatClampNeg, eq_self, i01, i10]
    refine sX12_in' 0 1000000 rfl rfl (fun h1 h2 => absurd ⟨h1, h2⟩ hx) (fun _ => ⟨fun q => absurd rfl q, fun _ => ⟨shA_45 hs, sX12_tell 0 1 (Or.inl ⟨rfl, rfl, rfl⟩) (by simp only [jN_uI, jN_uJ, jN_uR, jK_uI, jK_uJ, jK_uR, jZ_uI, jZ_uJ, jZ_uR, jR_uI, jR_uJ, jr_uI, jr_uJ, jI_uJ, jI_uR, jJ_uI, jJ_uR, jI_uI_eq, jI_uI_ne, jJ_uJ_eq, jJ_uJ_ne, jSh_uI, jSh_uJ, jA_uI, jA_uJ, jA_uR, jI_uIf_eq, jI_uIf_ne, jJ_uIf, jR_uIf, jr_uIf, jZ_uIf, jSh_uIf, jA_uIf]; exact hs) ?_⟩⟩)
    simp only [jN_uI, jN_uJ, jN_uR, jK_uI, jK_uJ, jK_uR, jZ_uI, jZ_uJ, jZ_uR, jR_uI, jR_uJ, jr_uI, jr_uJ, jI_uJ, jI_uR, jJ_uI, jJ_uR, jI_uI_eq, jI_uI_ne, jJ_uJ_eq, jJ_uJ_ne, jSh_uI, jSh_uJ, jA_uI, jA_uJ, jA_uR, jI_uIf_eq, jI_uIf_ne, jJ_uIf, jR_uIf, jr_uIf, jZ_uIf, jSh_uIf, jA_uIf, ne_eq, not_false_eq_true, not_true_eq_false, reduceCtorEq, Nat.reduceEqDiff, forall_eq, true_and, and_true, true_implies, forall_const, implies_true, List.mem_cons, List.not_mem_nil, or_false, false_or, or_self, if_true, if_false, reduceIte, Nat.reduceAdd, Nat.reduceMul, Nat.reduceLT, false_implies, Decidable.not_not, bI_eq0, bI_eq1, upd_at, updL_at, Nat.succ_ne_zero, Int32.reduceToNatClampNeg, eq_self, i01, i10]
    exact hq' _ hR (Nat.le_add_right _ _)
  unfold wX11_year
  refine ⟨fun h => no1 (fun w => by have := w.1; lia), fun h1 => ⟨fun h2 => ?_, fun h2 => no1 (fun w => h2 w.2)⟩⟩
  obtain ⟨seed, hse, rfl⟩ := nI_of2 (M := 1000000) (n := 1000000) rfl h1 h2
  have hxin : 0 ≤ nI seed ∧ nI seed ≤ 1000000 := ⟨by lia, h2⟩
  simp only [shA_0, shA_1, shR_0_0, shr_0_0, shR_0_1, shr_0_1, shR_0_2, shr_0_2, shR_0_3, shr_0_3, shR_0_4, shr_0_4, shR_0_5, shr_0_5, shR_0_6, shr_0_6, shR_0_7, shr_0_7, shR_0_8, shr_0_8, shR_0_9, shr_0_9, shR_1_4, shr_1_4, shR_1_5, shr_1_5, shR_1_6, shr_1_6, shR_1_9, shr_1_9, shR_1_11, shr_1_11, hs, ne_eq, not_false_eq_true, not_true_eq_false, reduceCtorEq, Nat.reduceEqDiff, forall_eq, true_and, and_true, true_implies, forall_const, implies_true, List.mem_cons, List.not_mem_nil, or_false, false_or, or_self, if_true, if_false, reduceIte, Nat.reduceAdd, Nat.reduceMul, Nat.reduceLT, false_implies, Decidable.not_not, bI_eq0, bI_eq1, upd_at, updL_at, Nat.succ_ne_zero, Int32.reduceToNatClampNeg, eq_self, i01, i10]
  refine sX9_hasRock' hs hm (fun r hr er => ⟨fun _ => ?_, fun q => absurd q (by decide)⟩) (fun hx => ⟨fun q => absurd rfl q, fun _ => ?_⟩)
  · subst er
    have hR := hm.1.1.2.1
    simp only [shA_0, shA_1, shA_23, shA_41, shR_0_0, shr_0_0, shR_0_1, shr_0_1, shR_0_2, shr_0_2, shR_0_3, shr_0_3, shR_0_4, shr_0_4, shR_0_5, shr_0_5, shR_0_6, shr_0_6, shR_0_7, shr_0_7, shR_0_8, shr_0_8, shR_0_9, shr_0_9, shR_1_4, shr_1_4, shR_1_5, shr_1_5, shR_1_6, shr_1_6, shR_1_9, shr_1_9, shR_1_11, shr_1_11, shR_23_0, shr_23_0, shR_23_1, shr_23_1, shR_23_2, shr_23_2, shR_41_0, shr_41_0, shR_41_2, shr_41_2, hs, ne_eq, not_false_eq_true, not_true_eq_false, reduceCtorEq, Nat.reduceEqDiff, forall_eq, true_and, and_true, true_implies, forall_const, implies_true, List.mem_cons, List.not_mem_nil, or_false, false_or, or_self, if_true, if_false, reduceIte, Nat.reduceAdd, Nat.reduceMul, Nat.reduceLT, false_implies, Decidable.not_not, bI_eq0, bI_eq1, upd_at, updL_at, Nat.succ_ne_zero, Int32.reduceToNatClampNeg, eq_self, i01, i10]
    refine sX10_pass hs hm hI.2.2.1 hr hse (fun S1 f1 B1 i1 y1 => ?_)
    have hs1 := f1.sh.mpr hs
    have e47 : jI S1 47 = jI S 47 := f1.I 47 (by decide)
    -- the year as numbers
    have hw : ∀ k, k ≤ 59 → (∃ s, gYk (jI S 47) seed r k s (jI S1 42 k).toNatClampNeg) ∧ (jI S1 42 k).toNatClampNeg < 9 ∧ jI S1 42 k = nI (jI S1 42 k).toNatClampNeg := fun k hk => by
      obtain ⟨s, v, y2, y3⟩ := y1 k hk
      have vR := (gYk_lt hr (by omega) y2).1
      have : (jI S1 42 k).toNatClampNeg = v := by rw [y3, nI_tn (by omega)]
      rw [this]
      exact ⟨⟨s, y2⟩, by omega, y3⟩
    generalize hwd : (fun k => (jI S1 42 k).toNatClampNeg) = w
    have hw2 : ∀ k, k ≤ 59 → (∃ s, gYk (jI S 47) seed r k s (w k)) ∧ w k < 9 ∧ jI S1 42 k = nI (w k) := fun k hk => by rw [← hwd]; exact hw k hk
    simp only [shA_0, shA_41, shR_0_0, shr_0_0, shR_0_1, shr_0_1, shR_0_2, shr_0_2, shR_0_3, shr_0_3, shR_0_4, shr_0_4, shR_0_5, shr_0_5, shR_0_6, shr_0_6, shR_0_7, shr_0_7, shR_0_8, shr_0_8, shR_0_9, shr_0_9, shR_41_0, shr_41_0, shR_41_2, shr_41_2, hs1, ne_eq, not_false_eq_true, not_true_eq_false, reduceCtorEq, Nat.reduceEqDiff, forall_eq, true_and, and_true, true_implies, forall_const, implies_true, List.mem_cons, List.not_mem_nil, or_false, false_or, or_self, if_true, if_false, reduceIte, Nat.reduceAdd, Nat.reduceMul, Nat.reduceLT, false_implies, Decidable.not_not, bI_eq0, bI_eq1, upd_at, updL_at, Nat.succ_ne_zero, Int32.reduceToNatClampNeg, eq_self, i01, i10]
    refine sX10_rocksHad (w := w) hs1 (fun k hk => (hw2 k (by omega)).2) ⟨shA_0 hs1, sX11_accept hs1 ?_⟩
    refine hq _ _ ⟨by simp only [jN_uI, jN_uJ, jN_uR, jK_uI, jK_uJ, jK_uR, jZ_uI, jZ_uJ, jZ_uR, jR_uI, jR_uJ, jr_uI, jr_uJ, jI_uJ, jI_uR, jJ_uI, jJ_uR, jI_uI_eq, jI_uI_ne, jJ_uJ_eq, jJ_uJ_ne, jSh_uI, jSh_uJ, jA_uI, jA_uJ, jA_uR, jI_uIf_eq, jI_uIf_ne, jJ_uIf, jR_uIf, jr_uIf, jZ_uIf, jSh_uIf, jA_uIf]; exact hs1, fun Q' hq' => ?_⟩
    have f2 : jFr [0, 24, 25, 26, 27, 41, 42, 43] S (uI (uI S1 0 12 0) 0 13 0) := ((f1.mono (by decide)).uI (by decide)).uI (by decide)
    have k0 : jFk 0 [12, 13] S (uI (uI S1 0 12 0) 0 13 0) := ((jFk.of f1 (by decide)).sI (by decide)).sI (by decide)
    have B2 : BC (uI (uI S1 0 12 0) 0 13 0) := BC.fr (H := [0]) (((jFr.refl _ _).uI (by decide)).uI (by decide)) (by decide) B1
    have z12 : jI (uI (uI S1 0 12 0) 0 13 0) 0 12 = 0 := by simp only [jN_uI, jN_uJ, jN_uR, jK_uI, jK_uJ, jK_uR, jZ_uI, jZ_uJ, jZ_uR, jR_uI, jR_uJ, jr_uI, jr_uJ, jI_uJ, jI_uR, jJ_uI, jJ_uR, jI_uI_eq, jI_uI_ne, jJ_uJ_eq, jJ_uJ_ne, jSh_uI, jSh_uJ, jA_uI, jA_uJ, jA_uR, jI_uIf_eq, jI_uIf_ne, jJ_uIf, jR_uIf, jr_uIf, jZ_uIf, jSh_uIf, jA_uIf, ne_eq, not_false_eq_true, not_true_eq_false, reduceCtorEq, Nat.reduceEqDiff, forall_eq, true_and, and_true, true_implies, forall_const, implies_true, List.mem_cons, List.not_mem_nil, or_false, false_or, or_self, if_true, if_false, reduceIte, Nat.reduceAdd, Nat.reduceMul, Nat.reduceLT, false_implies, Decidable.not_not, bI_eq0, bI_eq1, upd_at, updL_at, Nat.succ_ne_zero, Int32.reduceToNatClampNeg, eq_self, i01, i10]
    have z13 : jI (uI (uI S1 0 12 0) 0 13 0) 0 13 = 0 := by simp only [jN_uI, jN_uJ, jN_uR, jK_uI, jK_uJ, jK_uR, jZ_uI, jZ_uJ, jZ_uR, jR_uI, jR_uJ, jr_uI, jr_uJ, jI_uJ, jI_uR, jJ_uI, jJ_uR, jI_uI_eq, jI_uI_ne, jJ_uJ_eq, jJ_uJ_ne, jSh_uI, jSh_uJ, jA_uI, jA_uJ, jA_uR, jI_uIf_eq, jI_uIf_ne, jJ_uIf, jR_uIf, jr_uIf, jZ_uIf, jSh_uIf, jA_uIf, ne_eq, not_false_eq_true, not_true_eq_false, reduceCtorEq, Nat.reduceEqDiff, forall_eq, true_and, and_true, true_implies, forall_const, implies_true, List.mem_cons, List.not_mem_nil, or_false, false_or, or_self, if_true, if_false, reduceIte, Nat.reduceAdd, Nat.reduceMul, Nat.reduceLT, false_implies, Decidable.not_not, bI_eq0, bI_eq1, upd_at, updL_at, Nat.succ_ne_zero, Int32.reduceToNatClampNeg, eq_self, i01, i10]
    have i2 : jI (uI (uI S1 0 12 0) 0 13 0) 41 1 = 1 := by simp only [jN_uI, jN_uJ, jN_uR, jK_uI, jK_uJ, jK_uR, jZ_uI, jZ_uJ, jZ_uR, jR_uI, jR_uJ, jr_uI, jr_uJ, jI_uJ, jI_uR, jJ_uI, jJ_uR, jI_uI_eq, jI_uI_ne, jJ_uJ_eq, jJ_uJ_ne, jSh_uI, jSh_uJ, jA_uI, jA_uJ, jA_uR, jI_uIf_eq, jI_uIf_ne, jJ_uIf, jR_uIf, jr_uIf, jZ_uIf, jSh_uIf, jA_uIf, ne_eq, not_false_eq_true, not_true_eq_false, reduceCtorEq, Nat.reduceEqDiff, forall_eq, true_and, and_true, true_implies, forall_const, implies_true, List.mem_cons, List.not_mem_nil, or_false, false_or, or_self, if_true, if_false, reduceIte, Nat.reduceAdd, Nat.reduceMul, Nat.reduceLT, false_implies, Decidable.not_not, bI_eq0, bI_eq1, upd_at, updL_at, Nat.succ_ne_zero, Int32.reduceToNatClampNeg, eq_self, i01, i10]; exact i1
    have y2 : ∀ k, k ≤ 59 → jI (uI (uI S1 0 12 0) 0 13 0) 42 k = nI (w k) := fun k hk => by simp only [jN_uI, jN_uJ, jN_uR, jK_uI, jK_uJ, jK_uR, jZ_uI, jZ_uJ, jZ_uR, jR_uI, jR_uJ, jr_uI, jr_uJ, jI_uJ, jI_uR, jJ_uI, jJ_uR, jI_uI_eq, jI_uI_ne, jJ_uJ_eq, jJ_uJ_ne, jSh_uI, jSh_uJ, jA_uI, jA_uJ, jA_uR, jI_uIf_eq, jI_uIf_ne, jJ_uIf, jR_uIf, jr_uIf, jZ_uIf, jSh_uIf, jA_uIf, ne_eq, not_false_eq_true, not_true_eq_false, reduceCtorEq, Nat.reduceEqDiff, forall_eq, true_and, and_true, true_implies, forall_const, implies_true, List.mem_cons, List.not_mem_nil, or_false, false_or, or_self, if_true, if_false, reduceIte, Nat.reduceAdd, Nat.reduceMul, Nat.reduceLT, false_implies, Decidable.not_not, bI_eq0, bI_eq1, upd_at, updL_at, Nat.succ_ne_zero, Int32.reduceToNatClampNeg, eq_self, i01, i10]; exact (hw2 k hk).2.2
    generalize uI (uI S1 0 12 0) 0 13 0 = S2 at f2 k0 B2 z12 z13 i2 y2 ⊢
    have hs2 := f2.sh.mpr hs
    have hm2 : MW S2 := hm.fr f2 (by decide) (by decide)
    have e2 : jI S2 47 = jI S 47 := f2.I 47 (by decide)
    unfold wX12_year
    simp only [shA_45 hs2, ne_eq, not_false_eq_true, not_true_eq_false, reduceCtorEq, Nat.reduceEqDiff, forall_eq, true_and, and_true, true_implies, forall_const, implies_true, List.mem_cons, List.not_mem_nil, or_false, false_or, or_self, if_true, if_false, reduceIte, Nat.reduceAdd, Nat.reduceMul, Nat.reduceLT, false_implies, Decidable.not_not, bI_eq0, bI_eq1, upd_at, updL_at, Nat.succ_ne_zero, Int32.reduceToNatClampNeg, eq_self, i01, i10]
    have fM : jFr [45] S2 (uI S2 45 0 0) := (jFr.refl _ _).uI (by decide)
    have kM : jFk 45 [0] S2 (uI S2 45 0 0) := (jFk.refl _ _ _).sI (by decide)
    generalize uI S2 45 0 0 = M at fM kM ⊢
    have hsM := fM.sh.mpr hs2
    have hmM : MW M := hm2.fr fM (by decide) (by decide)
    have eM : jI M 47 = jI S 47 := by rw [fM.I 47 (by decide), e2]
    refine sX12_in' 0 1000000 rfl rfl (fun _ _ => ⟨fun _ => ⟨shA_45 hsM, ?_⟩, fun q => absurd q (by decide)⟩) (fun hx => absurd hxin hx)
    refine sX12_isRock hsM hmM (fun _ _ _ => ⟨fun _ => ⟨shA_45 hsM, ?_⟩, fun q => absurd q (by decide)⟩) (fun hx => absurd (rock_of hmM.1 (by rw [eM]; exact hr)) hx)
    refine sX12_layOut hsM hmM (fun S3 f3 k3 x3 => ?_)
    have hs3 := f3.sh.mpr hsM
    simp only [shA_45, shA_68, shZ_68, shR_45_2, shr_45_2, shR_45_3, shr_45_3, shR_45_4, shr_45_4, shR_45_5, shr_45_5, shR_45_7, shr_45_7, shR_45_16, shr_45_16, shR_45_18, shr_45_18, shR_45_19, shr_45_19, shR_45_21, shr_45_21, shR_45_22, shr_45_22, shR_45_25, shr_45_25, shR_45_26, shr_45_26, shR_45_28, shr_45_28, shR_45_29, shr_45_29, shR_45_33, shr_45_33, shR_45_34, shr_45_34, shR_45_35, shr_45_35, shR_45_36, shr_45_36, shR_45_37, shr_45_37, shR_45_38, shr_45_38, shR_45_39, shr_45_39, shR_45_40, shr_45_40, shR_45_42, shr_45_42, hs3, jN_uI, jN_uJ, jN_uR, jK_uI, jK_uJ, jK_uR, jZ_uI, jZ_uJ, jZ_uR, jR_uI, jR_uJ, jr_uI, jr_uJ, jI_uJ, jI_uR, jJ_uI, jJ_uR, jI_uI_eq, jI_uI_ne, jJ_uJ_eq, jJ_uJ_ne, jSh_uI, jSh_uJ, jA_uI, jA_uJ, jA_uR, jI_uIf_eq, jI_uIf_ne, jJ_uIf, jR_uIf, jr_uIf, jZ_uIf, jSh_uIf, jA_uIf, ne_eq, not_false_eq_true, not_true_eq_false, reduceCtorEq, Nat.reduceEqDiff, forall_eq, true_and, and_true, true_implies, forall_const, implies_true, List.mem_cons, List.not_mem_nil, or_false, false_or, or_self, if_true, if_false, reduceIte, Nat.reduceAdd, Nat.reduceMul, Nat.reduceLT, false_implies, Decidable.not_not, bI_eq0, bI_eq1, upd_at, updL_at, Nat.succ_ne_zero, Int32.reduceToNatClampNeg, eq_self, i01, i10]
    rw [nI_l (by omega), one_shl _ (by omega)]
    refine ⟨nI_in2 (n := 0) (by omega) (by omega), ?_⟩
    have f4 : jFr [45, 58, 59, 60, 68] M (uI (uI (uJ S3 45 41 (lN seed)) 45 43 1) 68 0 (nI r)) := (((f3.mono (by decide)).uJ (by decide)).uI (by decide)).uI (by decide)
    have f4x : jFr [45, 68] S3 (uI (uI (uJ S3 45 41 (lN seed)) 45 43 1) 68 0 (nI r)) := (((jFr.refl _ _).uJ (by decide)).uI (by decide)).uI (by decide)
    have k4 : jFk 45 [27, 30, 31, 32, 41, 43] M (uI (uI (uJ S3 45 41 (lN seed)) 45 43 1) 68 0 (nI r)) := (((k3.mono (by decide)).sJ (by decide)).sI (by decide)).oI (by decide)
    have j4 : jJ (uI (uI (uJ S3 45 41 (lN seed)) 45 43 1) 68 0 (nI r)) 45 41 = lN seed := by simp only [jN_uI, jN_uJ, jN_uR, jK_uI, jK_uJ, jK_uR, jZ_uI, jZ_uJ, jZ_uR, jR_uI, jR_uJ, jr_uI, jr_uJ, jI_uJ, jI_uR, jJ_uI, jJ_uR, jI_uI_eq, jI_uI_ne, jJ_uJ_eq, jJ_uJ_ne, jSh_uI, jSh_uJ, jA_uI, jA_uJ, jA_uR, jI_uIf_eq, jI_uIf_ne, jJ_uIf, jR_uIf, jr_uIf, jZ_uIf, jSh_uIf, jA_uIf, ne_eq, not_false_eq_true, not_true_eq_false, reduceCtorEq, Nat.reduceEqDiff, forall_eq, true_and, and_true, true_implies, forall_const, implies_true, List.mem_cons, List.not_mem_nil, or_false, false_or, or_self, if_true, if_false, reduceIte, Nat.reduceAdd, Nat.reduceMul, Nat.reduceLT, false_implies, Decidable.not_not, bI_eq0, bI_eq1, upd_at, updL_at, Nat.succ_ne_zero, Int32.reduceToNatClampNeg, eq_self, i01, i10]
    have z43 : jI (uI (uI (uJ S3 45 41 (lN seed)) 45 43 1) 68 0 (nI r)) 45 43 = 1 := by simp only [jN_uI, jN_uJ, jN_uR, jK_uI, jK_uJ, jK_uR, jZ_uI, jZ_uJ, jZ_uR, jR_uI, jR_uJ, jr_uI, jr_uJ, jI_uJ, jI_uR, jJ_uI, jJ_uR, jI_uI_eq, jI_uI_ne, jJ_uJ_eq, jJ_uJ_ne, jSh_uI, jSh_uJ, jA_uI, jA_uJ, jA_uR, jI_uIf_eq, jI_uIf_ne, jJ_uIf, jR_uIf, jr_uIf, jZ_uIf, jSh_uIf, jA_uIf, ne_eq, not_false_eq_true, not_true_eq_false, reduceCtorEq, Nat.reduceEqDiff, forall_eq, true_and, and_true, true_implies, forall_const, implies_true, List.mem_cons, List.not_mem_nil, or_false, false_or, or_self, if_true, if_false, reduceIte, Nat.reduceAdd, Nat.reduceMul, Nat.reduceLT, false_implies, Decidable.not_not, bI_eq0, bI_eq1, upd_at, updL_at, Nat.succ_ne_zero, Int32.reduceToNatClampNeg, eq_self, i01, i10]
    have d4 : jI (uI (uI (uJ S3 45 41 (lN seed)) 45 43 1) 68 0 (nI r)) 68 0 = nI r := by simp only [jN_uI, jN_uJ, jN_uR, jK_uI, jK_uJ, jK_uR, jZ_uI, jZ_uJ, jZ_uR, jR_uI, jR_uJ, jr_uI, jr_uJ, jI_uJ, jI_uR, jJ_uI, jJ_uR, jI_uI_eq, jI_uI_ne, jJ_uJ_eq, jJ_uJ_ne, jSh_uI, jSh_uJ, jA_uI, jA_uJ, jA_uR, jI_uIf_eq, jI_uIf_ne, jJ_uIf, jR_uIf, jr_uIf, jZ_uIf, jSh_uIf, jA_uIf, ne_eq, not_false_eq_true, not_true_eq_false, reduceCtorEq, Nat.reduceEqDiff, forall_eq, true_and, and_true, true_implies, forall_const, implies_true, List.mem_cons, List.not_mem_nil, or_false, false_or, or_self, if_true, if_false, reduceIte, Nat.reduceAdd, Nat.reduceMul, Nat.reduceLT, false_implies, Decidable.not_not, bI_eq0, bI_eq1, upd_at, updL_at, Nat.succ_ne_zero, Int32.reduceToNatClampNeg, eq_self, i01, i10]
    generalize uI (uI (uJ S3 45 41 (lN seed)) 45 43 1) 68 0 (nI r) = S4 at f4 f4x k4 j4 z43 d4 ⊢
    have hs4 := f4.sh.mpr hsM
    have hm4 : MW S4 := hmM.fr f4 (by decide) (by decide)
    have e4 : jI S4 47 = jI S 47 := by rw [f4.I 47 (by decide), eM]
    refine my_loop (w := w) (seed := seed) hs4 hm4 (by rw [e4]; exact hr) hse (x3.fr f4x (by decide)) (fun k hk => by rw [e4]; exact (hw2 k hk).1) j4 d4 (fun S5 f5 k5 d5 => hq' _ ?_ ?_)
    · have f6 : jFr [45, 58, 59, 60, 68] M (uI S5 45 1 0) := (f4.tr (f5.mono (by decide))).uI (by decide)
      have k6 : jFk 45 [1, 27, 30, 31, 32, 41, 43] M (uI S5 45 1 0) := ((k4.mono (by decide)).tr (k5.mono (by decide))).sI (by decide)
      have z1 : jI (uI S5 45 1 0) 45 1 = 0 := by simp only [jN_uI, jN_uJ, jN_uR, jK_uI, jK_uJ, jK_uR, jZ_uI, jZ_uJ, jZ_uR, jR_uI, jR_uJ, jr_uI, jr_uJ, jI_uJ, jI_uR, jJ_uI, jJ_uR, jI_uI_eq, jI_uI_ne, jJ_uJ_eq, jJ_uJ_ne, jSh_uI, jSh_uJ, jA_uI, jA_uJ, jA_uR, jI_uIf_eq, jI_uIf_ne, jJ_uIf, jR_uIf, jr_uIf, jZ_uIf, jSh_uIf, jA_uIf, ne_eq, not_false_eq_true, not_true_eq_false, reduceCtorEq, Nat.reduceEqDiff, forall_eq, true_and, and_true, true_implies, forall_const, implies_true, List.mem_cons, List.not_mem_nil, or_false, false_or, or_self, if_true, if_false, reduceIte, Nat.reduceAdd, Nat.reduceMul, Nat.reduceLT, false_implies, Decidable.not_not, bI_eq0, bI_eq1, upd_at, updL_at, Nat.succ_ne_zero, Int32.reduceToNatClampNeg, eq_self, i01, i10]
      have z2 : jI (uI S5 45 1 0) 45 43 = 1 := by simp only [jN_uI, jN_uJ, jN_uR, jK_uI, jK_uJ, jK_uR, jZ_uI, jZ_uJ, jZ_uR, jR_uI, jR_uJ, jr_uI, jr_uJ, jI_uJ, jI_uR, jJ_uI, jJ_uR, jI_uI_eq, jI_uI_ne, jJ_uJ_eq, jJ_uJ_ne, jSh_uI, jSh_uJ, jA_uI, jA_uJ, jA_uR, jI_uIf_eq, jI_uIf_ne, jJ_uIf, jR_uIf, jr_uIf, jZ_uIf, jSh_uIf, jA_uIf, ne_eq, not_false_eq_true, not_true_eq_false, reduceCtorEq, Nat.reduceEqDiff, forall_eq, true_and, and_true, true_implies, forall_const, implies_true, List.mem_cons, List.not_mem_nil, or_false, false_or, or_self, if_true, if_false, reduceIte, Nat.reduceAdd, Nat.reduceMul, Nat.reduceLT, false_implies, Decidable.not_not, bI_eq0, bI_eq1, upd_at, updL_at, Nat.succ_ne_zero, Int32.reduceToNatClampNeg, eq_self, i01, i10]; rw [k5.I 43 (by decide)]; exact z43
      have d6 : ∀ k, k < 60 → jI (uI S5 45 1 0) 68 k = nI (w k) := fun k hk => by simp only [jN_uI, jN_uJ, jN_uR, jK_uI, jK_uJ, jK_uR, jZ_uI, jZ_uJ, jZ_uR, jR_uI, jR_uJ, jr_uI, jr_uJ, jI_uJ, jI_uR, jJ_uI, jJ_uR, jI_uI_eq, jI_uI_ne, jJ_uJ_eq, jJ_uJ_ne, jSh_uI, jSh_uJ, jA_uI, jA_uJ, jA_uR, jI_uIf_eq, jI_uIf_ne, jJ_uIf, jR_uIf, jr_uIf, jZ_uIf, jSh_uIf, jA_uIf, ne_eq, not_false_eq_true, not_true_eq_false, reduceCtorEq, Nat.reduceEqDiff, forall_eq, true_and, and_true, true_implies, forall_const, implies_true, List.mem_cons, List.not_mem_nil, or_false, false_or, or_self, if_true, if_false, reduceIte, Nat.reduceAdd, Nat.reduceMul, Nat.reduceLT, false_implies, Decidable.not_not, bI_eq0, bI_eq1, upd_at, updL_at, Nat.succ_ne_zero, Int32.reduceToNatClampNeg, eq_self, i01, i10]; exact d5 k hk
      generalize uI S5 45 1 0 = S6 at f6 k6 z1 z2 d6 ⊢
      have fA : jFr [0, 24, 25, 26, 27, 41, 42, 43, 45, 58, 59, 60, 68] S S6 := ((f2.mono (by decide)).tr (fM.mono (by decide))).tr (f6.mono (by decide))
      have k0' : jFk 0 [12, 13] S S6 := (k0.tr (jFk.of fM (by decide))).tr (jFk.of f6 (by decide))
      have k45 : jFk 45 [0, 1, 27, 30, 31, 32, 41, 43] S S6 := ((jFk.of f2 (by decide)).tr (kM.mono (by decide))).tr (k6.mono (by decide))
      have f26 : jFr [45, 58, 59, 60, 68] S2 S6 := (fM.mono (by decide)).tr f6
      obtain ⟨i1, i2', i3, i4, i5, i6, i7, i8, i9, i10, i11⟩ := hI
      refine ⟨fA.sh.mpr i1, i2'.fr fA (by decide) (by decide), B2.fr f26 (by decide), SV.no (by rw [f26.I 0 (by decide)]; exact z13), i5.fr fA (by decide) (by rw [fA.I 14 (by decide)]) (k45.I 8 (by decide)), ?_, i7.fr (k0'.I 10 (by decide)) (k45.I 6 (by decide)) (k0'.I 11 (by decide)) (k45.I 13 (by decide)), ?_, i9.fr fA (by decide), i10.fr fA (by decide) (by decide), i11.fr fA⟩
      · refine ⟨?_, by rw [f26.I 0 (by decide), z12, z1]⟩
        rw [fA.I 44 (by decide), fA.I 46 (by decide)]; exact i6.1
      · have e41 : jI S6 41 1 = 1 := by rw [f26.I 41 (by decide)]; exact i2
        refine ⟨Or.inr e41, by rw [e41, z2], fun _ n hn => ?_⟩
        rw [f26.I 42 (by decide), y2 n (by omega), d6 n hn]
    · show jN S5 ≤ _
      rw [f5.N, f4.N, fM.N, f2.N]; omega
  · refine ⟨shA_0 hs, sX11_refuse 1 2 (Or.inr (Or.inl ⟨rfl, rfl, rfl⟩)) hs (hq _ _ ⟨by simp only [jN_uI, jN_uJ, jN_uR, jK_uI, jK_uJ, jK_uR, jZ_uI, jZ_uJ, jZ_uR, jR_uI, jR_uJ, jr_uI, jr_uJ, jI_uJ, jI_uR, jJ_uI, jJ_uR, jI_uI_eq, jI_uI_ne, jJ_uJ_eq, jJ_uJ_ne, jSh_uI, jSh_uJ, jA_uI, jA_uJ, jA_uR, jI_uIf_eq, jI_uIf_ne, jJ_uIf, jR_uIf, jr_uIf, jZ_uIf, jSh_uIf, jA_uIf]; exact hs, fun Q' hq' => ?_⟩)⟩
    have hR := hI.refused (why := -2) 1 2 (Or.inr (Or.inl ⟨rfl, rfl, rfl⟩))
    unfold wX12_year
    simp only [shA_45 hs, jN_uI, jN_uJ, jN_uR, jK_uI, jK_uJ, jK_uR, jZ_uI, jZ_uJ, jZ_uR, jR_uI, jR_uJ, jr_uI, jr_uJ, jI_uJ, jI_uR, jJ_uI, jJ_uR, jI_uI_eq, jI_uI_ne, jJ_uJ_eq, jJ_uJ_ne, jSh_uI, jSh_uJ, jA_uI, jA_uJ, jA_uR, jI_uIf_eq, jI_uIf_ne, jJ_uIf, jR_uIf, jr_uIf, jZ_uIf, jSh_uIf, jA_uIf, ne_eq, not_false_eq_true, not_true_eq_false, reduceCtorEq, Nat.reduceEqDiff, forall_eq, true_and, and_true, true_implies, forall_const, implies_true, List.mem_cons, List.not_mem_nil, or_false, false_or, or_self, if_true, if_false, reduceIte, Nat.reduceAdd, Nat.reduceMul, Nat.reduceLT, false_implies, Decidable.not_not, bI_eq0, bI_eq1, upd_at, updL_at, Nat.succ_ne_zero, Int32.reduceToNatClampNeg, eq_self, i01, i10]
    have fX : jFr [0, 44, 45] S (uI (uI (uI S 0 12 (-2)) 44 1 (jI S 44 1 + 1)) 45 0 0) := (((jFr.refl _ _).uI (by decide)).uI (by decide)).uI (by decide)
    have hmX : MW (uI (uI (uI S 0 12 (-2)) 44 1 (jI S 44 1 + 1)) 45 0 0) := hm.fr fX (by decide) (by decide)
    refine sX12_in' 0 1000000 rfl rfl (fun _ _ => ⟨fun _ => ⟨shA_45 hs, ?_⟩, fun q => absurd q (by decide)⟩) (fun hx => absurd hxin hx)
    refine sX12_isRock (fX.sh.mpr hs) hmX (fun a ha ea => ?_) (fun _ => ⟨fun q => absurd rfl q, fun _ => ⟨shA_45 hs, sX12_tell 1 2 (Or.inr (Or.inl ⟨rfl, rfl, rfl⟩)) (fX.sh.mpr hs) ?_⟩⟩)
    · exact absurd (by rw [ea]; exact rock_of hm.1 (by simp only [jN_uI, jN_uJ, jN_uR, jK_uI, jK_uJ, jK_uR, jZ_uI, jZ_uJ, jZ_uR, jR_uI, jR_uJ, jr_uI, jr_uJ, jI_uJ, jI_uR, jJ_uI, jJ_uR, jI_uI_eq, jI_uI_ne, jJ_uJ_eq, jJ_uJ_ne, jSh_uI, jSh_uJ, jA_uI, jA_uJ, jA_uR, jI_uIf_eq, jI_uIf_ne, jJ_uIf, jR_uIf, jr_uIf, jZ_uIf, jSh_uIf, jA_uIf, ne_eq, not_false_eq_true, not_true_eq_false, reduceCtorEq, Nat.reduceEqDiff, forall_eq, true_and, and_true, true_implies, forall_const, implies_true, List.mem_cons, List.not_mem_nil, or_false, false_or, or_self, if_true, if_false, reduceIte, Nat.reduceAdd, Nat.reduceMul, Nat.reduceLT, false_implies, Decidable.not_not, bI_eq0, bI_eq1, upd_at, updL_at, Nat.succ_ne_zero, Int32.reduceToNatClampNeg, eq_self, i01, i10] at ha; exact ha)) hx
    · simp only [jN_uI, jN_uJ, jN_uR, jK_uI, jK_uJ, jK_uR, jZ_uI, jZ_uJ, jZ_uR, jR_uI, jR_uJ, jr_uI, jr_uJ, jI_uJ, jI_uR, jJ_uI, jJ_uR, jI_uI_eq, jI_uI_ne, jJ_uJ_eq, jJ_uJ_ne, jSh_uI, jSh_uJ, jA_uI, jA_uJ, jA_uR, jI_uIf_eq, jI_uIf_ne, jJ_uIf, jR_uIf, jr_uIf, jZ_uIf, jSh_uIf, jA_uIf, ne_eq, not_false_eq_true, not_true_eq_false, reduceCtorEq, Nat.reduceEqDiff, forall_eq, true_and, and_true, true_implies, forall_const, implies_true, List.mem_cons, List.not_mem_nil, or_false, false_or, or_self, if_true, if_false, reduceIte, Nat.reduceAdd, Nat.reduceMul, Nat.reduceLT, false_implies, Decidable.not_not, bI_eq0, bI_eq1, upd_at, updL_at, Nat.succ_ne_zero, Int32.reduceToNatClampNeg, eq_self, i01, i10]
      exact hq' _ hR (Nat.le_add_right _ _)
