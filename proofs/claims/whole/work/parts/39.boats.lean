/-! BOATS: what the class knows -/
theorem tell_env {S S' : JS} {k : Nat} {v : Int32} {e : Int64} (h : jI S' 25 k = v) (h2 : v.toInt64 = e) : (jI S' 25 k).toInt64 = e := by rw [h]; exact h2
theorem sX0_aboutRock {S : JS} {Q : JS → Prop} {r n : Nat} (hs : jSh S) (hm : MW S) (hn : n < 60) (h : ∀ S', jFr [25] S S' → (∀ k, 0 < k → k < 7 → (jI S' 25 k).toInt64 = gEnv (jI S 47) (nI r) (nI n) (-1) k) → Q S') : wX0_aboutRock 24 1 (nI r) (nI n) S Q := by
  have e1 : jI S 1 1 = jI S 47 1 := hm.2.1.2.1
  have e2 : cSt (jJ S 1 3) n = jI S 47 (8 + n) := hm.2.2.1.1 n hn
  unfold wX0_aboutRock wX9_stormOn
  simp only [shA_1, shA_24, shA_25, shZ_25, shR_1_4, shr_1_4, shR_1_5, shr_1_5, shR_1_6, shr_1_6, shR_1_9, shr_1_9, shR_1_11, shr_1_11, shR_24_0, shr_24_0, shR_24_1, shr_24_1, hs, vpin_2, vpin_3, vpin_4, vpin_5, vpin_6, vpin_7, vpin_9, vpin_12, vpin_13, vpin_16, vpin_32, vpin_60, vpin_96, vpin_400, vpin_401, vpin_540, vpin_4320, vpin_4608, vpin_5600, vpin_11200, vpin_276480, e1, jN_uI, jN_uJ, jN_uR, jK_uI, jK_uJ, jK_uR, jZ_uI, jZ_uJ, jZ_uR, jR_uI, jR_uJ, jr_uI, jr_uJ, jI_uJ, jI_uR, jJ_uI, jJ_uR, jI_uI_eq, jI_uI_ne, jJ_uJ_eq, jJ_uJ_ne, jSh_uI, jSh_uJ, jA_uI, jA_uJ, jA_uR, jI_uIf_eq, jI_uIf_ne, jJ_uIf, jR_uIf, jr_uIf, jZ_uIf, jSh_uIf, jA_uIf, ne_eq, not_false_eq_true, not_true_eq_false, reduceCtorEq, Nat.reduceEqDiff, forall_eq, true_and, and_true, true_implies, forall_const, implies_true, List.mem_cons, List.not_mem_nil, or_false, false_or, or_self, if_true, if_false, reduceIte, Nat.reduceAdd, Nat.reduceMul, Nat.reduceLT, false_implies, Decidable.not_not, bI_eq0, bI_eq1, upd_at, updL_at, Nat.succ_ne_zero, Int32.reduceToNatClampNeg]
  rw [show ((jJ S 1 3 >>> ((nI n).toInt64 &&& 63)) &&& 1).toInt32 = jI S 47 (8 + n) from e2]
  refine ⟨by decide, by decide, by decide, by decide, by decide, by decide, ?_⟩
  refine h _ ((((((((jFr.refl _ _).uI (by decide)).uI (by decide)).uI (by decide)).uI (by decide)).uI (by decide)).uI (by decide))) (fun k k1 k2 => ?_)
  simp only [jN_uI, jN_uJ, jN_uR, jK_uI, jK_uJ, jK_uR, jZ_uI, jZ_uJ, jZ_uR, jR_uI, jR_uJ, jr_uI, jr_uJ, jI_uJ, jI_uR, jJ_uI, jJ_uR, jI_uI_eq, jI_uI_ne, jJ_uJ_eq, jJ_uJ_ne, jSh_uI, jSh_uJ, jA_uI, jA_uJ, jA_uR, jI_uIf_eq, jI_uIf_ne, jJ_uIf, jR_uIf, jr_uIf, jZ_uIf, jSh_uIf, jA_uIf, ne_eq, not_false_eq_true, not_true_eq_false, reduceCtorEq, Nat.reduceEqDiff, forall_eq, true_and, and_true, true_implies, forall_const, implies_true, List.mem_cons, List.not_mem_nil, or_false, false_or, or_self, if_true, if_false, reduceIte, Nat.reduceAdd, Nat.reduceMul, Nat.reduceLT, false_implies, Decidable.not_not, bI_eq0, bI_eq1, upd_at, updL_at, Nat.succ_ne_zero, Int32.reduceToNatClampNeg]
  unfold gEnv
  rw [nI_tn (by omega)]
  rcases (by omega : k = 1 ∨ k = 2 ∨ k = 3 ∨ k = 4 ∨ k = 5 ∨ k = 6) with e | e | e | e | e | e <;> subst e <;> simp
theorem sX0_aboutBoat {S : JS} {Q : JS → Prop} {a b n : Nat} (hs : jSh S) (hm : MW S) (ha : a < gR (jI S 47)) (hb : b < gR (jI S 47)) (hn : n < 60) (h : ∀ S', jFr [25] S S' → (∀ k, 0 < k → k < 7 → (jI S' 25 k).toInt64 = gEnv (jI S 47) (nI a) (nI n) (nI b) k) → Q S') : wX0_aboutBoat 24 1 (nI a) (nI b) (nI n) S Q := by
  obtain ⟨R1, R2, R3⟩ := hm.1.1
  have e0 : jI S 1 0 = nI (gR (jI S 47)) := hm.2.1.1.trans R3
  unfold wX0_aboutBoat
  refine ⟨shA_24 hs, sX0_aboutRock hs hm hn (fun S1 f1 env => ?_)⟩
  have hs1 : jSh S1 := f1.sh.mpr hs
  intro d hd
  simp only [shA_1, shA_24, shA_25, shZ_25, shR_1_4, shr_1_4, shR_1_5, shr_1_5, shR_1_6, shr_1_6, shR_1_9, shr_1_9, shR_1_11, shr_1_11, shR_24_0, shr_24_0, shR_24_1, shr_24_1, hs1, vpin_2, vpin_3, vpin_4, vpin_5, vpin_6, vpin_7, vpin_9, vpin_12, vpin_13, vpin_16, vpin_32, vpin_60, vpin_96, vpin_400, vpin_401, vpin_540, vpin_4320, vpin_4608, vpin_5600, vpin_11200, vpin_276480, f1.I 1 (by decide), e0, jN_uI, jN_uJ, jN_uR, jK_uI, jK_uJ, jK_uR, jZ_uI, jZ_uJ, jZ_uR, jR_uI, jR_uJ, jr_uI, jr_uJ, jI_uJ, jI_uR, jJ_uI, jJ_uR, jI_uI_eq, jI_uI_ne, jJ_uJ_eq, jJ_uJ_ne, jSh_uI, jSh_uJ, jA_uI, jA_uJ, jA_uR, jI_uIf_eq, jI_uIf_ne, jJ_uIf, jR_uIf, jr_uIf, jZ_uIf, jSh_uIf, jA_uIf, ne_eq, not_false_eq_true, not_true_eq_false, reduceCtorEq, Nat.reduceEqDiff, forall_eq, true_and, and_true, true_implies, forall_const, implies_true, List.mem_cons, List.not_mem_nil, or_false, false_or, or_self, if_true, if_false, reduceIte, Nat.reduceAdd, Nat.reduceMul, Nat.reduceLT, false_implies, Decidable.not_not, bI_eq0, bI_eq1, upd_at, updL_at, Nat.succ_ne_zero, Int32.reduceToNatClampNeg]
  refine ⟨by decide, by decide, ?_⟩
  refine h _ ((f1.uI (by decide)).uI (by decide)) (fun k k1 k2 => ?_)
  have hd2 : ∃ D, D < gR (jI S 47) ∧ d = nI D ∧ (if nI a < nI b then nI b - nI a else nI a - nI b) = nI D := by
    rw [hd]
    rcases Nat.lt_or_ge a b with l | l
    · refine ⟨b - a, by omega, ?_, ?_⟩
      · rw [if_neg, ← nI_sub (by omega)]
        · lia
        · have e := nI_sub (a := b) (b := a) (by omega)
          have p := nI_ltI (a := 0) (b := b - a) (by omega) (by omega)
          rw [← e] at p
          have p := p.mpr (by omega)
          rw [show nI 0 = 0 from rfl] at p
          have p1 := nI_nn (n := a) (by omega)
          have p2 := nI_nn (n := b) (by omega)
          lia
      · rw [if_pos (by rw [nI_lt' (by omega) (by omega)]; exact l), nI_sub (by omega)]
    · refine ⟨a - b, by omega, ?_, ?_⟩
      · rw [nI_sub l, if_pos (nI_nn (by omega))]
      · rw [if_neg (by rw [nI_lt' (by omega) (by omega)]; omega), nI_sub l]
  obtain ⟨D, D1, D2, D3⟩ := hd2
  have hf : (if nI (gR (jI S 47)) - d < d then nI (gR (jI S 47)) - d else d) = gFar (jI S 47 0) (nI a) (nI b) := by
    unfold gFar
    rw [D3, R3, D2, nI_sub (by omega)]
    simp (disch := omega) only [nI_lt']
    split
    · rw [if_neg (by omega)]
    · split
      · rfl
      · rw [show gR (jI S 47) - D = D by omega]
  rw [hf]
  have hb1 : ¬ nI b = -1 := by have := nI_nn (n := b) (by omega); lia
  simp only [jN_uI, jN_uJ, jN_uR, jK_uI, jK_uJ, jK_uR, jZ_uI, jZ_uJ, jZ_uR, jR_uI, jR_uJ, jr_uI, jr_uJ, jI_uJ, jI_uR, jJ_uI, jJ_uR, jI_uI_eq, jI_uI_ne, jJ_uJ_eq, jJ_uJ_ne, jSh_uI, jSh_uJ, jA_uI, jA_uJ, jA_uR, jI_uIf_eq, jI_uIf_ne, jJ_uIf, jR_uIf, jr_uIf, jZ_uIf, jSh_uIf, jA_uIf, ne_eq, not_false_eq_true, not_true_eq_false, reduceCtorEq, Nat.reduceEqDiff, forall_eq, true_and, and_true, true_implies, forall_const, implies_true, List.mem_cons, List.not_mem_nil, or_false, false_or, or_self, if_true, if_false, reduceIte, Nat.reduceAdd, Nat.reduceMul, Nat.reduceLT, false_implies, Decidable.not_not, bI_eq0, bI_eq1, upd_at, updL_at, Nat.succ_ne_zero, Int32.reduceToNatClampNeg]
  have := env k k1 k2
  unfold gEnv at this ⊢
  rw [nI_tn (by omega)] at this ⊢
  rcases (by omega : k = 1 ∨ k = 2 ∨ k = 3 ∨ k = 4 ∨ k = 5 ∨ k = 6) with e | e | e | e | e | e <;> subst e <;> simp [hb1] at this ⊢ <;> exact this
theorem sX9_ruling {S : JS} {Q : Option Nat → JS → Prop} (hs : jSh S) (hm : MW S) (h1 : jI S 47 4 = -1 → Q none S) (h2 : ∀ j h n, j < 6 → jI S 47 4 = nI j → LawR S h (jI S 47) (200 + 900 * j) → n ≤ 12 → jI S 47 (200 + 900 * j + 1) = nI n → Q (some h) S) : wX9_ruling 1 S Q := by
  unfold wX9_ruling
  rcases hm.law with ⟨q1, q2⟩ | ⟨j, h, n, j1, j2, j3, ⟨l, l1, l2, l3⟩, j5, j6, j7, j8⟩
  · simp only [shA_1, shA_10, shZ_10, shR_1_4, shr_1_4, shR_1_5, shr_1_5, shR_1_6, shr_1_6, shR_1_9, shr_1_9, shR_1_11, shr_1_11, hs, q2, ne_eq, not_false_eq_true, not_true_eq_false, reduceCtorEq, Nat.reduceEqDiff, forall_eq, true_and, and_true, true_implies, forall_const, implies_true, List.mem_cons, List.not_mem_nil, or_false, false_or, or_self, if_true, if_false, reduceIte, Nat.reduceAdd, Nat.reduceMul, Nat.reduceLT, false_implies, Decidable.not_not, bI_eq0, bI_eq1, upd_at, updL_at, Nat.succ_ne_zero, Int32.reduceToNatClampNeg]
    exact ⟨fun _ => h1 q1, fun z => absurd (by decide) z⟩
  · simp only [shA_1, shA_10, shZ_10, shR_1_4, shr_1_4, shR_1_5, shr_1_5, shR_1_6, shr_1_6, shR_1_9, shr_1_9, shR_1_11, shr_1_11, hs, j3, l3, ne_eq, not_false_eq_true, not_true_eq_false, reduceCtorEq, Nat.reduceEqDiff, forall_eq, true_and, and_true, true_implies, forall_const, implies_true, List.mem_cons, List.not_mem_nil, or_false, false_or, or_self, if_true, if_false, reduceIte, Nat.reduceAdd, Nat.reduceMul, Nat.reduceLT, false_implies, Decidable.not_not, bI_eq0, bI_eq1, upd_at, updL_at, Nat.succ_ne_zero, Int32.reduceToNatClampNeg]
    rw [nI_lt' (by omega) (by omega), nI_tn (by omega), j5, jr_of j5]
    simp (disch := omega) only [nI_ltm, nI_inT, ne_eq, not_false_eq_true, not_true_eq_false, reduceCtorEq, Nat.reduceEqDiff, forall_eq, true_and, and_true, true_implies, forall_const, implies_true, List.mem_cons, List.not_mem_nil, or_false, false_or, or_self, if_true, if_false, reduceIte, Nat.reduceAdd, Nat.reduceMul, Nat.reduceLT, false_implies, Decidable.not_not, bI_eq0, bI_eq1, upd_at, updL_at, Nat.succ_ne_zero, Int32.reduceToNatClampNeg]
    exact ⟨fun _ => h2 j h n j1 j2 j6 j7 j8, fun z => absurd l2 z⟩
theorem sX9_hasRock {S : JS} {Q : Int32 → JS → Prop} {r : Nat} (hs : jSh S) (hm : MW S) (hr : r < 1000000) (h1 : r < gR (jI S 47) → Q 1 S) (h0 : ¬ r < gR (jI S 47) → Q 0 S) : wX9_hasRock 1 (nI r) S Q := by
  obtain ⟨R1, R2, R3⟩ := hm.1.1
  have e0 : jI S 1 0 = nI (gR (jI S 47)) := hm.2.1.1.trans R3
  unfold wX9_hasRock
  simp only [shA_1, shR_1_4, shr_1_4, shR_1_5, shr_1_5, shR_1_6, shr_1_6, shR_1_9, shr_1_9, shR_1_11, shr_1_11, hs, e0, ne_eq, not_false_eq_true, not_true_eq_false, reduceCtorEq, Nat.reduceEqDiff, forall_eq, true_and, and_true, true_implies, forall_const, implies_true, List.mem_cons, List.not_mem_nil, or_false, false_or, or_self, if_true, if_false, reduceIte, Nat.reduceAdd, Nat.reduceMul, Nat.reduceLT, false_implies, Decidable.not_not, bI_eq0, bI_eq1, upd_at, updL_at, Nat.succ_ne_zero, Int32.reduceToNatClampNeg]
  simp (disch := omega) only [nI_ltm, nI_le', ne_eq, not_false_eq_true, not_true_eq_false, reduceCtorEq, Nat.reduceEqDiff, forall_eq, true_and, and_true, true_implies, forall_const, implies_true, List.mem_cons, List.not_mem_nil, or_false, false_or, or_self, if_true, if_false, reduceIte, Nat.reduceAdd, Nat.reduceMul, Nat.reduceLT, false_implies, Decidable.not_not, bI_eq0, bI_eq1, upd_at, updL_at, Nat.succ_ne_zero, Int32.reduceToNatClampNeg]
  exact ⟨fun z => h0 (by omega), fun z => h1 (by omega)⟩
theorem sX9_isWeddingOn {S : JS} {Q : Int32 → JS → Prop} {r n : Nat} (hs : jSh S) (hm : MW S) (hr : r < 9) (hn : n < 60) (h1 : gWd (jI S 47) r n → Q 1 S) (h0 : ¬ gWd (jI S 47) r n → Q 0 S) : wX9_isWeddingOn 1 (nI r) (nI n) S Q := by
  obtain ⟨w, w1, w2, w3⟩ := hm.1.2.2.2.2.1
  obtain ⟨v1, v2⟩ := hm.2.2.2.1
  unfold wX9_isWeddingOn wX9_isWeddingOn_2
  refine jLoop.cnt w (fun c q => q = (1, nI r, nI n, nI c, S) ∧ ∀ i, i < c → ¬ (jI S 47 (68 + 3 * i) = nI r ∧ jI S 47 (68 + 3 * i + 1) ≤ nI n ∧ nI n ≤ jI S 47 (68 + 3 * i + 2))) 0 (Nat.zero_le _) ?_ ⟨rfl, fun i hi => absurd hi (Nat.not_lt_zero _)⟩
  rintro c _ hc ⟨rfl, hi⟩
  unfold bX9_isWeddingOn_2 wX9_isWeddingOn_30
  simp only [shA_1, shA_2, shA_3, shZ_3, shA_4, shZ_4, shA_5, shZ_5, shR_1_4, shr_1_4, shR_1_5, shr_1_5, shR_1_6, shr_1_6, shR_1_9, shr_1_9, shR_1_11, shr_1_11, shR_2_0, shr_2_0, shR_2_1, shr_2_1, shR_2_2, shr_2_2, hs, v1, w2, nI_1, ne_eq, not_false_eq_true, not_true_eq_false, reduceCtorEq, Nat.reduceEqDiff, forall_eq, true_and, and_true, true_implies, forall_const, implies_true, List.mem_cons, List.not_mem_nil, or_false, false_or, or_self, if_true, if_false, reduceIte, Nat.reduceAdd, Nat.reduceMul, Nat.reduceLT, false_implies, Decidable.not_not, bI_eq0, bI_eq1, upd_at, updL_at, Nat.succ_ne_zero, Int32.reduceToNatClampNeg]
  rw [nI_le' (by omega) (by omega), nI_tn (by omega)]
  refine ⟨fun q => h0 ?_, fun q => ?_⟩
  · rintro ⟨i, i1, i2⟩
    rw [w2, nI_tn (by omega)] at i1
    exact hi i (by omega) i2
  · obtain ⟨u1, u2, u3⟩ := v2 c (by rw [w2, nI_tn (by omega)]; omega)
    rw [u1, u2, u3]
    have nx : ¬ (jI S 47 (68 + 3 * c) = nI r ∧ jI S 47 (68 + 3 * c + 1) ≤ nI n ∧ nI n ≤ jI S 47 (68 + 3 * c + 2)) → c < w ∧ ∀ i, i < c + 1 → ¬ (jI S 47 (68 + 3 * i) = nI r ∧ jI S 47 (68 + 3 * i + 1) ≤ nI n ∧ nI n ≤ jI S 47 (68 + 3 * i + 2)) := by
      intro z
      exact ⟨by omega, fun i i1 => by
        rcases Nat.lt_or_ge i c with l | l
        · exact hi i l
        · have : i = c := by omega
          subst this; exact z⟩
    refine ⟨nI_in2 (by omega) (by omega), fun z => nx (fun y => z y.1), fun z => ⟨nI_in2 (by omega) (by omega), fun z2 => nx (fun y => by have := y.2.1; lia), fun z2 => ⟨nI_in2 (by omega) (by omega), fun z3 => nx (fun y => by have := y.2.2; lia), fun z3 => h1 ⟨c, by rw [w2, nI_tn (by omega)]; omega, z, by lia, by lia⟩⟩⟩⟩
theorem lf_loop {S : JS} {Q : JS → Prop} {a n : Nat} {hl j k : Nat} (hs : jSh S) (hm : MW S) (ha : a < gR (jI S 47)) (hn : n < 59) (hst : jI S 47 (8 + n) = 0) (hwd : ¬ gWd (jI S 47) a n) (hlaw : LawR S hl (jI S 47) (200 + 900 * j)) (hj1 : j < 6) (hj2 : jI S 47 4 = nI j) (hk1 : jI S 47 (200 + 900 * j + 1) = nI k) (hk2 : k ≤ 12) (hq : ∀ x S', jFr [24, 25, 26] S S' → (∀ i, i < 32 → (bt x i = true ↔ gSl (jI S 47) n a i)) → Q (uI S' 27 (n * 9 + a) x)) : wX1_learnFrom_37 23 1 (nI a) (nI n) hl 0 0 0 S Q := by
  obtain ⟨R1, R2, R3⟩ := hm.1.1
  have e0 : jI S 1 0 = nI (gR (jI S 47)) := hm.2.1.1.trans R3
  unfold wX1_learnFrom_37
  refine jLoop.cnt (gR (jI S 47)) (fun c q => ∃ x S', q = (23, 1, nI a, nI n, hl, 0, x, nI c, S') ∧ jFr [24, 25, 26] S S' ∧ ∀ i, i < 32 → (bt x i = true ↔ i < c ∧ gSl (jI S 47) n a i)) 0 (Nat.zero_le _) ?_ ⟨0, S, rfl, jFr.refl _ _, fun i hi => by rw [b_0]; exact ⟨fun q => by (cases q), fun q => absurd q.1 (Nat.not_lt_zero _)⟩⟩
  rintro c _ hc ⟨x, S1, rfl, f1, hx⟩
  have hs1 : jSh S1 := f1.sh.mpr hs
  have hm1 : MW S1 := hm.fr f1 (by decide) (by decide)
  have e47 : jI S1 47 = jI S 47 := f1.I 47 (by decide)
  unfold bX1_learnFrom_37 wX1_learnFrom_64 wX1_learnFrom_66
  simp only [shA_1, shA_23, shA_24, shR_1_4, shr_1_4, shR_1_5, shr_1_5, shR_1_6, shr_1_6, shR_1_9, shr_1_9, shR_1_11, shr_1_11, shR_23_0, shr_23_0, shR_23_1, shr_23_1, shR_23_2, shr_23_2, shR_24_0, shr_24_0, shR_24_1, shr_24_1, hs1, f1.I 1 (by decide), e0, pl_nI, ne_eq, not_false_eq_true, not_true_eq_false, reduceCtorEq, Nat.reduceEqDiff, forall_eq, true_and, and_true, true_implies, forall_const, implies_true, List.mem_cons, List.not_mem_nil, or_false, false_or, or_self, if_true, if_false, reduceIte, Nat.reduceAdd, Nat.reduceMul, Nat.reduceLT, false_implies, Decidable.not_not, bI_eq0, bI_eq1, upd_at, updL_at, Nat.succ_ne_zero, Int32.reduceToNatClampNeg]
  rw [nI_le' (by omega) (by omega)]
  refine ⟨fun q => ?_, fun q => ?_⟩
  · unfold wX11_placeOf
    simp only [shA_23, shA_27, shZ_27, shR_23_0, shr_23_0, shR_23_1, shr_23_1, shR_23_2, shr_23_2, hs1, pl_nI, ne_eq, not_false_eq_true, not_true_eq_false, reduceCtorEq, Nat.reduceEqDiff, forall_eq, true_and, and_true, true_implies, forall_const, implies_true, List.mem_cons, List.not_mem_nil, or_false, false_or, or_self, if_true, if_false, reduceIte, Nat.reduceAdd, Nat.reduceMul, Nat.reduceLT, false_implies, Decidable.not_not, bI_eq0, bI_eq1, upd_at, updL_at, Nat.succ_ne_zero, Int32.reduceToNatClampNeg]
    rw [nI_tn (by omega)]
    refine ⟨nI_in2 (by omega) (by omega), ?_⟩
    refine hq x S1 f1 (fun i hi => (hx i hi).trans ⟨fun z => z.2, fun z => ⟨by have := z.2.1; omega, z⟩⟩)
  · refine sX0_aboutBoat hs1 hm1 (by rw [e47]; exact ha) (by rw [e47]; omega) (by omega) (fun S2 f2 env => ?_)
    rw [e47] at env
    have f3 : jFr [24, 25, 26] S S2 := f1.tr (f2.mono (by decide))
    have hs2 : jSh S2 := f3.sh.mpr hs
    simp only [shA_23, shA_24, shR_23_0, shr_23_0, shR_23_1, shr_23_1, shR_23_2, shr_23_2, shR_24_0, shr_24_0, shR_24_1, shr_24_1, hs2, nI_1, ne_eq, not_false_eq_true, not_true_eq_false, reduceCtorEq, Nat.reduceEqDiff, forall_eq, true_and, and_true, true_implies, forall_const, implies_true, List.mem_cons, List.not_mem_nil, or_false, false_or, or_self, if_true, if_false, reduceIte, Nat.reduceAdd, Nat.reduceMul, Nat.reduceLT, false_implies, Decidable.not_not, bI_eq0, bI_eq1, upd_at, updL_at, Nat.succ_ne_zero, Int32.reduceToNatClampNeg]
    rw [nI_eq' (by omega) (by omega)]
    refine ⟨fun q2 => ?_, fun q2 => ?_⟩
    · refine ⟨by omega, x, S2, rfl, f3, fun i hi => (hx i hi).trans ⟨fun z => ⟨by omega, z.2⟩, fun z => ⟨?_, z.2⟩⟩⟩
      have := z.2.2.2.1; omega
    · have bar : ∀ S3, jFr [24, 25, 26] S S3 → (fun r30 S29 => (¬ r30 = 0 → (c < gR (jI S 47) ∧ ∃ x_1 S', (23, 1, nI a, nI n, hl, (0 : Int32), x, nI (c + 1), S29) = (23, 1, nI a, nI n, hl, 0, x_1, nI (c + 1), S') ∧ jFr [24, 25, 26] S S' ∧ ∀ i, i < 32 → (bt x_1 i = true ↔ i < c + 1 ∧ gSl (jI S 47) n a i))) ∧ (r30 = 0 → (c < gR (jI S 47) ∧ ∃ x_1 S', (23, 1, nI a, nI n, hl, (0 : Int32), x ||| ((1 : Int32) <<< (nI c &&& 31)), nI (c + 1), S29) = (23, 1, nI a, nI n, hl, 0, x_1, nI (c + 1), S') ∧ jFr [24, 25, 26] S S' ∧ ∀ i, i < 32 → (bt x_1 i = true ↔ i < c + 1 ∧ gSl (jI S 47) n a i)))) (gTell (jI S 47) 2 (nI a) (nI n) (nI c)) S3 := by
        intro S3 f4
        refine ⟨fun q3 => ?_, fun q3 => ?_⟩
        · refine ⟨by omega, x, S3, rfl, f4, fun i hi => (hx i hi).trans ⟨fun z => ⟨by omega, z.2⟩, fun z => ⟨?_, z.2⟩⟩⟩
          rcases Nat.lt_or_ge i c with l | l
          · exact l
          · have : i = c := by omega
            subst this
            exact absurd z.2.2.2.2.2.2.2 q3
        · refine ⟨by omega, _, S3, rfl, f4, fun i hi => ?_⟩
          rw [b_set (by omega) hi, Bool.or_eq_true, hx i hi, decide_eq_true_iff]
          constructor
          · rintro (z | z)
            · exact ⟨by omega, z.2⟩
            · subst z; exact ⟨by omega, ha, by omega, q2, hn, hst, hwd, q3⟩
          · intro z
            rcases Nat.lt_or_ge i c with l | l
            · exact Or.inl ⟨l, z.2⟩
            · exact Or.inr (by omega)
      refine sX0_isBarred hs2 (row := jI S 47) (base := 200 + 900 * j) (env := gEnv (jI S 47) (nI a) (nI n) (nI c)) (hlaw.fr f3 (by decide)) hk1 hk2 env (fun S3 f4 => ?_)
      have := bar S3 (f3.tr (f4.mono (by decide)))
      rw [gTell_some hj2 hj1 hk2 hk1] at this
      exact this
theorem lf_loopv7 {S : JS} {Q : JS → Prop} {a n : Nat} (hs : jSh S) (hm : MW S) (ha : a < gR (jI S 47)) (hn : n < 59) (hst : jI S 47 (8 + n) = 0) (hwd : ¬ gWd (jI S 47) a n) (hnl : jI S 47 4 = -1) (hq : ∀ x S', jFr [24, 25, 26] S S' → (∀ i, i < 32 → (bt x i = true ↔ gSl (jI S 47) n a i)) → Q (uI S' 27 (n * 9 + a) x)) : wX1_learnFrom_37v7 23 1 (nI a) (nI n) 0 0 0 S Q := by
  obtain ⟨R1, R2, R3⟩ := hm.1.1
  have e0 : jI S 1 0 = nI (gR (jI S 47)) := hm.2.1.1.trans R3
  unfold wX1_learnFrom_37v7
  refine jLoop.cnt (gR (jI S 47)) (fun c q => ∃ x S', q = (23, 1, nI a, nI n, 0, x, nI c, S') ∧ jFr [24, 25, 26] S S' ∧ ∀ i, i < 32 → (bt x i = true ↔ i < c ∧ gSl (jI S 47) n a i)) 0 (Nat.zero_le _) ?_ ⟨0, S, rfl, jFr.refl _ _, fun i hi => by rw [b_0]; exact ⟨fun q => by (cases q), fun q => absurd q.1 (Nat.not_lt_zero _)⟩⟩
  rintro c _ hc ⟨x, S1, rfl, f1, hx⟩
  have hs1 : jSh S1 := f1.sh.mpr hs
  have hm1 : MW S1 := hm.fr f1 (by decide) (by decide)
  have e47 : jI S1 47 = jI S 47 := f1.I 47 (by decide)
  unfold bX1_learnFrom_37v7 wX1_learnFrom_64v8 wX1_learnFrom_66
  simp only [shA_1, shA_23, shA_24, shR_1_4, shr_1_4, shR_1_5, shr_1_5, shR_1_6, shr_1_6, shR_1_9, shr_1_9, shR_1_11, shr_1_11, shR_23_0, shr_23_0, shR_23_1, shr_23_1, shR_23_2, shr_23_2, shR_24_0, shr_24_0, shR_24_1, shr_24_1, hs1, f1.I 1 (by decide), e0, pl_nI, ne_eq, not_false_eq_true, not_true_eq_false, reduceCtorEq, Nat.reduceEqDiff, forall_eq, true_and, and_true, true_implies, forall_const, implies_true, List.mem_cons, List.not_mem_nil, or_false, false_or, or_self, if_true, if_false, reduceIte, Nat.reduceAdd, Nat.reduceMul, Nat.reduceLT, false_implies, Decidable.not_not, bI_eq0, bI_eq1, upd_at, updL_at, Nat.succ_ne_zero, Int32.reduceToNatClampNeg]
  rw [nI_le' (by omega) (by omega)]
  refine ⟨fun q => ?_, fun q => ?_⟩
  · unfold wX11_placeOf
    simp only [shA_23, shA_27, shZ_27, shR_23_0, shr_23_0, shR_23_1, shr_23_1, shR_23_2, shr_23_2, hs1, pl_nI, ne_eq, not_false_eq_true, not_true_eq_false, reduceCtorEq, Nat.reduceEqDiff, forall_eq, true_and, and_true, true_implies, forall_const, implies_true, List.mem_cons, List.not_mem_nil, or_false, false_or, or_self, if_true, if_false, reduceIte, Nat.reduceAdd, Nat.reduceMul, Nat.reduceLT, false_implies, Decidable.not_not, bI_eq0, bI_eq1, upd_at, updL_at, Nat.succ_ne_zero, Int32.reduceToNatClampNeg]
    rw [nI_tn (by omega)]
    refine ⟨nI_in2 (by omega) (by omega), ?_⟩
    refine hq x S1 f1 (fun i hi => (hx i hi).trans ⟨fun z => z.2, fun z => ⟨by have := z.2.1; omega, z⟩⟩)
  · refine sX0_aboutBoat hs1 hm1 (by rw [e47]; exact ha) (by rw [e47]; omega) (by omega) (fun S2 f2 env => ?_)
    rw [e47] at env
    have f3 : jFr [24, 25, 26] S S2 := f1.tr (f2.mono (by decide))
    have hs2 : jSh S2 := f3.sh.mpr hs
    simp only [shA_23, shA_24, shR_23_0, shr_23_0, shR_23_1, shr_23_1, shR_23_2, shr_23_2, shR_24_0, shr_24_0, shR_24_1, shr_24_1, hs2, nI_1, ne_eq, not_false_eq_true, not_true_eq_false, reduceCtorEq, Nat.reduceEqDiff, forall_eq, true_and, and_true, true_implies, forall_const, implies_true, List.mem_cons, List.not_mem_nil, or_false, false_or, or_self, if_true, if_false, reduceIte, Nat.reduceAdd, Nat.reduceMul, Nat.reduceLT, false_implies, Decidable.not_not, bI_eq0, bI_eq1, upd_at, updL_at, Nat.succ_ne_zero, Int32.reduceToNatClampNeg]
    rw [nI_eq' (by omega) (by omega)]
    refine ⟨fun q2 => ?_, fun q2 => ?_⟩
    · refine ⟨by omega, x, S2, rfl, f3, fun i hi => (hx i hi).trans ⟨fun z => ⟨by omega, z.2⟩, fun z => ⟨?_, z.2⟩⟩⟩
      have := z.2.2.2.1; omega
    · have bar : ∀ S3, jFr [24, 25, 26] S S3 → (fun r30 S29 => (¬ r30 = 0 → (c < gR (jI S 47) ∧ ∃ x_1 S', (23, 1, nI a, nI n, (0 : Int32), x, nI (c + 1), S29) = (23, 1, nI a, nI n, 0, x_1, nI (c + 1), S') ∧ jFr [24, 25, 26] S S' ∧ ∀ i, i < 32 → (bt x_1 i = true ↔ i < c + 1 ∧ gSl (jI S 47) n a i))) ∧ (r30 = 0 → (c < gR (jI S 47) ∧ ∃ x_1 S', (23, 1, nI a, nI n, (0 : Int32), x ||| ((1 : Int32) <<< (nI c &&& 31)), nI (c + 1), S29) = (23, 1, nI a, nI n, 0, x_1, nI (c + 1), S') ∧ jFr [24, 25, 26] S S' ∧ ∀ i, i < 32 → (bt x_1 i = true ↔ i < c + 1 ∧ gSl (jI S 47) n a i)))) (gTell (jI S 47) 2 (nI a) (nI n) (nI c)) S3 := by
        intro S3 f4
        refine ⟨fun q3 => ?_, fun q3 => ?_⟩
        · refine ⟨by omega, x, S3, rfl, f4, fun i hi => (hx i hi).trans ⟨fun z => ⟨by omega, z.2⟩, fun z => ⟨?_, z.2⟩⟩⟩
          rcases Nat.lt_or_ge i c with l | l
          · exact l
          · have : i = c := by omega
            subst this
            exact absurd z.2.2.2.2.2.2.2 q3
        · refine ⟨by omega, _, S3, rfl, f4, fun i hi => ?_⟩
          rw [b_set (by omega) hi, Bool.or_eq_true, hx i hi, decide_eq_true_iff]
          constructor
          · rintro (z | z)
            · exact ⟨by omega, z.2⟩
            · subst z; exact ⟨by omega, ha, by omega, q2, hn, hst, hwd, q3⟩
          · intro z
            rcases Nat.lt_or_ge i c with l | l
            · exact Or.inl ⟨l, z.2⟩
            · exact Or.inr (by omega)
      unfold wX0_isBarred
      refine ⟨fun _ => ?_, fun _ z => by (cases z)⟩
      have := bar S2 f3
      rw [gTell_none hnl, if_pos rfl] at this
      exact this
/-- what the class knows of boats and danger is right -/
def slOk (row : Nat → Int32) (n a : Nat) (x : Int32) : Prop := ∀ i, i < 32 → (bt x i = true ↔ gSl row n a i)
def BC (S : JS) : Prop := (∀ n a, n < 60 → a < 9 → jI S 27 (n * 9 + a) = -1 ∨ slOk (jI S 47) n a (jI S 27 (n * 9 + a))) ∧ ∀ n a, n < 60 → a < 9 → jI S 28 (n * 9 + a) = -1 ∨ jI S 28 (n * 9 + a) = gTell (jI S 47) 0 (nI a) (nI n) (-1)
theorem slOk.nm1 {row : Nat → Int32} {n a : Nat} {x : Int32} (h : slOk row n a x) (hr : RowOk row) : ¬ x = -1 := by
  refine b_nm1 (k := 31) (by omega) ?_
  have := h 31 (by omega)
  cases e : bt x 31 with
  | false => rfl
  | true => have := (this.mp e).2.1; have := hr.1.2.1; omega
theorem pl_inj {n a m b : Nat} (ha : a < 9) (hb : b < 9) : n * 9 + a = m * 9 + b ↔ n = m ∧ a = b := by omega
theorem sX1_learnFrom {S : JS} {Q : JS → Prop} {a n : Nat} (hs : jSh S) (hm : MW S) (hB : BC S) (ha : a < 9) (hn : n < 60) (h : ∀ S', jFr [24, 25, 26, 27] S S' → BC S' → (∀ p, p ≠ n * 9 + a → jI S' 27 p = jI S 27 p) → slOk (jI S 47) n a (jI S' 27 (n * 9 + a)) → Q S') : wX1_learnFrom 23 1 (nI a) (nI n) S Q := by
  obtain ⟨R1, R2, R3⟩ := hm.1.1
  have e0 : jI S 1 0 = nI (gR (jI S 47)) := hm.2.1.1.trans R3
  have e2 : cSt (jJ S 1 3) n = jI S 47 (8 + n) := hm.2.2.1.1 n hn
  -- what is stored is right
  have fin : ∀ x S', jFr [24, 25, 26] S S' → (∀ i, i < 32 → (bt x i = true ↔ gSl (jI S 47) n a i)) → Q (uI S' 27 (n * 9 + a) x) := by
    intro x S1 f1 hx
    have e27 : jI S1 27 = jI S 27 := f1.I 27 (by decide)
    have e28 : jI S1 28 = jI S 28 := f1.I 28 (by decide)
    have e47 : jI S1 47 = jI S 47 := f1.I 47 (by decide)
    refine h _ ((f1.mono (by decide)).uI (by decide)) ?_ ?_ ?_
    · refine ⟨fun m b m1 b1 => ?_, fun m b m1 b1 => ?_⟩
      · simp only [jN_uI, jN_uJ, jN_uR, jK_uI, jK_uJ, jK_uR, jZ_uI, jZ_uJ, jZ_uR, jR_uI, jR_uJ, jr_uI, jr_uJ, jI_uJ, jI_uR, jJ_uI, jJ_uR, jI_uI_eq, jI_uI_ne, jJ_uJ_eq, jJ_uJ_ne, jSh_uI, jSh_uJ, jA_uI, jA_uJ, jA_uR, jI_uIf_eq, jI_uIf_ne, jJ_uIf, jR_uIf, jr_uIf, jZ_uIf, jSh_uIf, jA_uIf, ne_eq, not_false_eq_true, not_true_eq_false, reduceCtorEq, Nat.reduceEqDiff, forall_eq, true_and, and_true, true_implies, forall_const, implies_true, List.mem_cons, List.not_mem_nil, or_false, false_or, or_self, if_true, if_false, reduceIte, Nat.reduceAdd, Nat.reduceMul, Nat.reduceLT, false_implies, Decidable.not_not, bI_eq0, bI_eq1, upd_at, updL_at, Nat.succ_ne_zero, Int32.reduceToNatClampNeg, pl_inj b1 ha, e27, e47]
        split
        · rename_i q; obtain ⟨rfl, rfl⟩ := q; exact Or.inr hx
        · exact hB.1 m b m1 b1
      · simp only [jN_uI, jN_uJ, jN_uR, jK_uI, jK_uJ, jK_uR, jZ_uI, jZ_uJ, jZ_uR, jR_uI, jR_uJ, jr_uI, jr_uJ, jI_uJ, jI_uR, jJ_uI, jJ_uR, jI_uI_eq, jI_uI_ne, jJ_uJ_eq, jJ_uJ_ne, jSh_uI, jSh_uJ, jA_uI, jA_uJ, jA_uR, jI_uIf_eq, jI_uIf_ne, jJ_uIf, jR_uIf, jr_uIf, jZ_uIf, jSh_uIf, jA_uIf, ne_eq, not_false_eq_true, not_true_eq_false, reduceCtorEq, Nat.reduceEqDiff, forall_eq, true_and, and_true, true_implies, forall_const, implies_true, List.mem_cons, List.not_mem_nil, or_false, false_or, or_self, if_true, if_false, reduceIte, Nat.reduceAdd, Nat.reduceMul, Nat.reduceLT, false_implies, Decidable.not_not, bI_eq0, bI_eq1, upd_at, updL_at, Nat.succ_ne_zero, Int32.reduceToNatClampNeg, e28, e47]
        exact hB.2 m b m1 b1
    · intro p hp; simp only [jN_uI, jN_uJ, jN_uR, jK_uI, jK_uJ, jK_uR, jZ_uI, jZ_uJ, jZ_uR, jR_uI, jR_uJ, jr_uI, jr_uJ, jI_uJ, jI_uR, jJ_uI, jJ_uR, jI_uI_eq, jI_uI_ne, jJ_uJ_eq, jJ_uJ_ne, jSh_uI, jSh_uJ, jA_uI, jA_uJ, jA_uR, jI_uIf_eq, jI_uIf_ne, jJ_uIf, jR_uIf, jr_uIf, jZ_uIf, jSh_uIf, jA_uIf, ne_eq, not_false_eq_true, not_true_eq_false, reduceCtorEq, Nat.reduceEqDiff, forall_eq, true_and, and_true, true_implies, forall_const, implies_true, List.mem_cons, List.not_mem_nil, or_false, false_or, or_self, if_true, if_false, reduceIte, Nat.reduceAdd, Nat.reduceMul, Nat.reduceLT, false_implies, Decidable.not_not, bI_eq0, bI_eq1, upd_at, updL_at, Nat.succ_ne_zero, Int32.reduceToNatClampNeg]; rw [if_neg hp, e27]
    · simp only [jN_uI, jN_uJ, jN_uR, jK_uI, jK_uJ, jK_uR, jZ_uI, jZ_uJ, jZ_uR, jR_uI, jR_uJ, jr_uI, jr_uJ, jI_uJ, jI_uR, jJ_uI, jJ_uR, jI_uI_eq, jI_uI_ne, jJ_uJ_eq, jJ_uJ_ne, jSh_uI, jSh_uJ, jA_uI, jA_uJ, jA_uR, jI_uIf_eq, jI_uIf_ne, jJ_uIf, jR_uIf, jr_uIf, jZ_uIf, jSh_uIf, jA_uIf, ne_eq, not_false_eq_true, not_true_eq_false, reduceCtorEq, Nat.reduceEqDiff, forall_eq, true_and, and_true, true_implies, forall_const, implies_true, List.mem_cons, List.not_mem_nil, or_false, false_or, or_self, if_true, if_false, reduceIte, Nat.reduceAdd, Nat.reduceMul, Nat.reduceLT, false_implies, Decidable.not_not, bI_eq0, bI_eq1, upd_at, updL_at, Nat.succ_ne_zero, Int32.reduceToNatClampNeg]; exact hx
  have zero : ∀ S', jFr [24, 25, 26] S S' → ¬ (a < gR (jI S 47) ∧ n < 59 ∧ jI S 47 (8 + n) = 0 ∧ ¬ gWd (jI S 47) a n) → Q (uI S' 27 (n * 9 + a) 0) := by
    intro S1 f1 hz
    refine fin 0 S1 f1 (fun i hi => ?_)
    rw [b_0]
    refine ⟨fun q => by (cases q), fun q => absurd ⟨q.1, q.2.2.2.1, q.2.2.2.2.1, q.2.2.2.2.2.1⟩ hz⟩
  unfold wX1_learnFrom wX11_placeOf
  simp only [shA_1, shA_23, shA_27, shZ_27, shR_1_4, shr_1_4, shR_1_5, shr_1_5, shR_1_6, shr_1_6, shR_1_9, shr_1_9, shR_1_11, shr_1_11, shR_23_0, shr_23_0, shR_23_1, shr_23_1, shR_23_2, shr_23_2, hs, pl_nI, ne_eq, not_false_eq_true, not_true_eq_false, reduceCtorEq, Nat.reduceEqDiff, forall_eq, true_and, and_true, true_implies, forall_const, implies_true, List.mem_cons, List.not_mem_nil, or_false, false_or, or_self, if_true, if_false, reduceIte, Nat.reduceAdd, Nat.reduceMul, Nat.reduceLT, false_implies, Decidable.not_not, bI_eq0, bI_eq1, upd_at, updL_at, Nat.succ_ne_zero, Int32.reduceToNatClampNeg]
  rw [nI_tn (by omega)]
  refine ⟨nI_in2 (by omega) (by omega), fun q => ?_, fun q => ?_⟩
  · refine sX9_ruling hs hm (fun hl => ?_) (fun j hl k j1 j2 j3 j4 j5 => ?_)
    · refine ⟨fun _ => ?_, fun r z => by (cases z)⟩
      have stop : ¬ (a < gR (jI S 47) ∧ n < 59 ∧ jI S 47 (8 + n) = 0 ∧ ¬ gWd (jI S 47) a n) → wX1_learnFrom_29v5 23 1 (nI a) (nI n) S Q := by
        intro hz
        unfold wX1_learnFrom_29v5 wX1_learnFrom_32v6 wX1_learnFrom_37v7
        refine jLoop.roll ?_
        unfold bX1_learnFrom_37v7 wX1_learnFrom_66 wX11_placeOf
        simp only [shA_1, shA_23, shA_27, shZ_27, shR_1_4, shr_1_4, shR_1_5, shr_1_5, shR_1_6, shr_1_6, shR_1_9, shr_1_9, shR_1_11, shr_1_11, shR_23_0, shr_23_0, shR_23_1, shr_23_1, shR_23_2, shr_23_2, hs, pl_nI, ne_eq, not_false_eq_true, not_true_eq_false, reduceCtorEq, Nat.reduceEqDiff, forall_eq, true_and, and_true, true_implies, forall_const, implies_true, List.mem_cons, List.not_mem_nil, or_false, false_or, or_self, if_true, if_false, reduceIte, Nat.reduceAdd, Nat.reduceMul, Nat.reduceLT, false_implies, Decidable.not_not, bI_eq0, bI_eq1, upd_at, updL_at, Nat.succ_ne_zero, Int32.reduceToNatClampNeg]
        rw [nI_tn (by omega)]
        exact ⟨fun _ => ⟨nI_in2 (by omega) (by omega), zero S (jFr.refl _ _) hz⟩, fun _ => ⟨fun _ => ⟨nI_in2 (by omega) (by omega), zero S (jFr.refl _ _) hz⟩, fun z => absurd z (by decide)⟩⟩
      refine ⟨shA_1 hs, ?_⟩
      refine sX9_hasRock hs hm (by omega) (fun z => ⟨fun y => absurd y (by decide), fun _ => ?_⟩) (fun z => ⟨fun _ => stop (fun y => z y.1), fun y => absurd rfl y⟩)
      rw [li_59, nI_le' (by omega) (by omega)]
      refine ⟨fun z2 => stop (fun y => by omega), fun z2 => ?_⟩
      unfold wX9_stormOn
      simp only [shA_1, shR_1_4, shr_1_4, shR_1_5, shr_1_5, shR_1_6, shr_1_6, shR_1_9, shr_1_9, shR_1_11, shr_1_11, hs, ne_eq, not_false_eq_true, not_true_eq_false, reduceCtorEq, Nat.reduceEqDiff, forall_eq, true_and, and_true, true_implies, forall_const, implies_true, List.mem_cons, List.not_mem_nil, or_false, false_or, or_self, if_true, if_false, reduceIte, Nat.reduceAdd, Nat.reduceMul, Nat.reduceLT, false_implies, Decidable.not_not, bI_eq0, bI_eq1, upd_at, updL_at, Nat.succ_ne_zero, Int32.reduceToNatClampNeg]
      rw [show ((jJ S 1 3 >>> ((nI n).toInt64 &&& 63)) &&& 1).toInt32 = jI S 47 (8 + n) from e2]
      refine ⟨fun z3 => stop (fun y => ?_), fun z3 => ?_⟩
      · rw [z3] at y; exact absurd y.2.2.1 (by decide)
      have hst : jI S 47 (8 + n) = 0 := by
        rcases hm.1.2.2.2.2.2.2.2.1 n hn with e | e
        · exact e
        · exact absurd e z3
      refine sX9_isWeddingOn hs hm ha hn (fun hw => ⟨fun z4 => absurd z4 (by decide), fun _ => stop (fun y => y.2.2.2 hw)⟩) (fun hw => ⟨fun _ => ?_, fun z4 => absurd rfl z4⟩)
      · unfold wX1_learnFrom_32v6
        exact lf_loopv7 hs hm (by omega) (by omega) hst hw hl fin
      
    · refine ⟨fun z => by (cases z), fun r z => ?_⟩
      cases z
      have stop : ¬ (a < gR (jI S 47) ∧ n < 59 ∧ jI S 47 (8 + n) = 0 ∧ ¬ gWd (jI S 47) a n) → wX1_learnFrom_29 23 1 (nI a) (nI n) hl S Q := by
        intro hz
        unfold wX1_learnFrom_29 wX1_learnFrom_32 wX1_learnFrom_37
        refine jLoop.roll ?_
        unfold bX1_learnFrom_37 wX1_learnFrom_66 wX11_placeOf
        simp only [shA_1, shA_23, shA_27, shZ_27, shR_1_4, shr_1_4, shR_1_5, shr_1_5, shR_1_6, shr_1_6, shR_1_9, shr_1_9, shR_1_11, shr_1_11, shR_23_0, shr_23_0, shR_23_1, shr_23_1, shR_23_2, shr_23_2, hs, pl_nI, ne_eq, not_false_eq_true, not_true_eq_false, reduceCtorEq, Nat.reduceEqDiff, forall_eq, true_and, and_true, true_implies, forall_const, implies_true, List.mem_cons, List.not_mem_nil, or_false, false_or, or_self, if_true, if_false, reduceIte, Nat.reduceAdd, Nat.reduceMul, Nat.reduceLT, false_implies, Decidable.not_not, bI_eq0, bI_eq1, upd_at, updL_at, Nat.succ_ne_zero, Int32.reduceToNatClampNeg]
        rw [nI_tn (by omega)]
        exact ⟨fun _ => ⟨nI_in2 (by omega) (by omega), zero S (jFr.refl _ _) hz⟩, fun _ => ⟨fun _ => ⟨nI_in2 (by omega) (by omega), zero S (jFr.refl _ _) hz⟩, fun z => absurd z (by decide)⟩⟩
      refine ⟨shA_1 hs, ?_⟩
      refine sX9_hasRock hs hm (by omega) (fun z => ⟨fun y => absurd y (by decide), fun _ => ?_⟩) (fun z => ⟨fun _ => stop (fun y => z y.1), fun y => absurd rfl y⟩)
      rw [li_59, nI_le' (by omega) (by omega)]
      refine ⟨fun z2 => stop (fun y => by omega), fun z2 => ?_⟩
      unfold wX9_stormOn
      simp only [shA_1, shR_1_4, shr_1_4, shR_1_5, shr_1_5, shR_1_6, shr_1_6, shR_1_9, shr_1_9, shR_1_11, shr_1_11, hs, ne_eq, not_false_eq_true, not_true_eq_false, reduceCtorEq, Nat.reduceEqDiff, forall_eq, true_and, and_true, true_implies, forall_const, implies_true, List.mem_cons, List.not_mem_nil, or_false, false_or, or_self, if_true, if_false, reduceIte, Nat.reduceAdd, Nat.reduceMul, Nat.reduceLT, false_implies, Decidable.not_not, bI_eq0, bI_eq1, upd_at, updL_at, Nat.succ_ne_zero, Int32.reduceToNatClampNeg]
      rw [show ((jJ S 1 3 >>> ((nI n).toInt64 &&& 63)) &&& 1).toInt32 = jI S 47 (8 + n) from e2]
      refine ⟨fun z3 => stop (fun y => ?_), fun z3 => ?_⟩
      · rw [z3] at y; exact absurd y.2.2.1 (by decide)
      have hst : jI S 47 (8 + n) = 0 := by
        rcases hm.1.2.2.2.2.2.2.2.1 n hn with e | e
        · exact e
        · exact absurd e z3
      refine sX9_isWeddingOn hs hm ha hn (fun hw => ⟨fun z4 => absurd z4 (by decide), fun _ => stop (fun y => y.2.2.2 hw)⟩) (fun hw => ⟨fun _ => ?_, fun z4 => absurd rfl z4⟩)
      · unfold wX1_learnFrom_32
        exact lf_loop hs hm (by omega) (by omega) hst hw j3 j1 j2 j5 j4 fin
      
  · refine h S (jFr.refl _ _) hB (fun _ _ => rfl) ?_
    rcases hB.1 n a hn ha with z | z
    · exact absurd z q
    · exact z
