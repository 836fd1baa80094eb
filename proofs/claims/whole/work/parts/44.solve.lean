/-! THE CLASS'S SIGHTINGS, solved -/
theorem lsOk.fr {S S' : JS} {H : List Nat} {m : Nat} (f : jFr H S S') (hd : ∀ x ∈ [31, 32, 47], x ∉ H) (q : lsOk S m) : lsOk S' m := by
  unfold lsOk at q ⊢
  rw [f.I 31 (hd 31 (by decide)), f.J 32 (hd 32 (by decide)), f.I 47 (hd 47 (by decide))]; exact q
theorem sX7_chooseStart {S : JS} {Q : JS → Prop} (hs : jSh S) (hm : MW S) (hk : lsOk S 0) (h : ∀ S', jFr [29, 33] S S' → jI S' 29 5 = nI (gF (jI S 47)) → jJ S' 29 6 = lN (gNu (jI S 47) (gR (jI S 47))) → (∀ i, i < 32 → (bt (jI S' 33 0) i = true ↔ gFo (jI S 47) 0 i)) → Q S') : wX7_chooseStart 29 1 S Q := by
  obtain ⟨R1, R2, R3⟩ := hm.1.1
  have e0 : jI S 1 0 = nI (gR (jI S 47)) := hm.2.1.1.trans R3
  have hf : ∀ p, p < gR (jI S 47) → jI S 31 p = nI (gD (jI S 47) 59 p) ∧ jJ S 32 p = lN (gW (jI S 47) 59 p) ∧ gD (jI S 47) 59 p ≤ 16 := fun p hp => by
    obtain ⟨a, b⟩ := hk 0 p (Nat.le_refl _) (by omega) hp
    rw [Nat.zero_mul, Nat.zero_add] at a b
    exact ⟨a, b, gD_16 hm.1 (by omega) hp⟩
  have pl0 : ∀ p, (0 : Int32) * 9 + nI p = nI p := fun p => by rw [show (0 : Int32) = nI 0 from rfl, pl_nI, Nat.zero_mul, Nat.zero_add]
  unfold wX7_chooseStart
  refine ⟨shA_29 hs, ?_⟩
  refine nm_e ?_
  unfold wX7_chooseStart_5
  refine jLoop.cnt (gR (jI S 47)) (fun c q => ∃ S', q = (29, 1, nI c, S') ∧ jFr [29, 33] S S' ∧ ((c = 0 ∧ jI S' 29 5 = nI 17) ∨ (0 < c ∧ jI S' 29 5 = nI (mn (fun _ => True) (gD (jI S 47) 59) c) ∧ mn (fun _ => True) (gD (jI S 47) 59) c ≤ 16))) 0 (by omega) ?_ ⟨_, rfl, (jFr.refl _ _).uI (by decide), Or.inl ⟨rfl, by simp only [jN_uI, jN_uJ, jN_uR, jK_uI, jK_uJ, jK_uR, jZ_uI, jZ_uJ, jZ_uR, jR_uI, jR_uJ, jr_uI, jr_uJ, jI_uJ, jI_uR, jJ_uI, jJ_uR, jI_uI_eq, jI_uI_ne, jJ_uJ_eq, jJ_uJ_ne, jSh_uI, jSh_uJ, jA_uI, jA_uJ, jA_uR, jI_uIf_eq, jI_uIf_ne, jJ_uIf, jR_uIf, jr_uIf, jZ_uIf, jSh_uIf, jA_uIf, ne_eq, not_false_eq_true, not_true_eq_false, reduceCtorEq, Nat.reduceEqDiff, forall_eq, true_and, and_true, true_implies, forall_const, implies_true, List.mem_cons, List.not_mem_nil, or_false, false_or, or_self, if_true, if_false, reduceIte, Nat.reduceAdd, Nat.reduceMul, Nat.reduceLT, false_implies, Decidable.not_not, bI_eq0, bI_eq1, upd_at, updL_at, Nat.succ_ne_zero, Int32.reduceToNatClampNeg, eq_self, i01, i10]; rfl⟩⟩
  rintro c _ hc ⟨S1, rfl, f1, hi⟩
  have hs1 : jSh S1 := f1.sh.mpr hs
  unfold bX7_chooseStart_5 wX11_placeOf
  simp only [shA_1, shA_29, shA_31, shZ_31, shA_33, shZ_33, shR_1_4, shr_1_4, shR_1_5, shr_1_5, shR_1_6, shr_1_6, shR_1_9, shr_1_9, shR_1_11, shr_1_11, shR_29_0, shr_29_0, shR_29_1, shr_29_1, shR_29_2, shr_29_2, shR_29_3, shr_29_3, shR_29_4, shr_29_4, hs1, nI_1, pl0, f1.I 1 (by decide), f1.I 31 (by decide), e0, jN_uI, jN_uJ, jN_uR, jK_uI, jK_uJ, jK_uR, jZ_uI, jZ_uJ, jZ_uR, jR_uI, jR_uJ, jr_uI, jr_uJ, jI_uJ, jI_uR, jJ_uI, jJ_uR, jI_uI_eq, jI_uI_ne, jJ_uJ_eq, jJ_uJ_ne, jSh_uI, jSh_uJ, jA_uI, jA_uJ, jA_uR, jI_uIf_eq, jI_uIf_ne, jJ_uIf, jR_uIf, jr_uIf, jZ_uIf, jSh_uIf, jA_uIf, ne_eq, not_false_eq_true, not_true_eq_false, reduceCtorEq, Nat.reduceEqDiff, forall_eq, true_and, and_true, true_implies, forall_const, implies_true, List.mem_cons, List.not_mem_nil, or_false, false_or, or_self, if_true, if_false, reduceIte, Nat.reduceAdd, Nat.reduceMul, Nat.reduceLT, false_implies, Decidable.not_not, bI_eq0, bI_eq1, upd_at, updL_at, Nat.succ_ne_zero, Int32.reduceToNatClampNeg, eq_self, i01, i10]
  rw [nI_le' (by omega) (by omega)]
  refine ⟨fun q => ⟨nI_in2 (n := 0) (by omega) (by omega), ?_⟩, fun q => ?_⟩
  · have hF : jI S1 29 5 = nI (gF (jI S 47)) := by
      rcases hi with ⟨z, _⟩ | ⟨_, z, _⟩
      · omega
      · rw [z, show c = gR (jI S 47) by omega]; rfl
    have hF16 := gF_16 hm.1
    unfold wX7_chooseStart_32
    refine jLoop.cnt (gR (jI S 47)) (fun d q => ∃ S', q = (29, 1, nI d, S') ∧ jFr [29, 33] S S' ∧ jI S' 29 5 = nI (gF (jI S 47)) ∧ jJ S' 29 6 = lN (gNu (jI S 47) d) ∧ (∀ i, i < 32 → (bt (jI S' 33 0) i = true ↔ i < d ∧ gFo (jI S 47) 0 i))) 0 (by omega) ?_ ⟨_, rfl, ((f1.uJ (by decide)).uI (by decide)), by simp only [jN_uI, jN_uJ, jN_uR, jK_uI, jK_uJ, jK_uR, jZ_uI, jZ_uJ, jZ_uR, jR_uI, jR_uJ, jr_uI, jr_uJ, jI_uJ, jI_uR, jJ_uI, jJ_uR, jI_uI_eq, jI_uI_ne, jJ_uJ_eq, jJ_uJ_ne, jSh_uI, jSh_uJ, jA_uI, jA_uJ, jA_uR, jI_uIf_eq, jI_uIf_ne, jJ_uIf, jR_uIf, jr_uIf, jZ_uIf, jSh_uIf, jA_uIf, ne_eq, not_false_eq_true, not_true_eq_false, reduceCtorEq, Nat.reduceEqDiff, forall_eq, true_and, and_true, true_implies, forall_const, implies_true, List.mem_cons, List.not_mem_nil, or_false, false_or, or_self, if_true, if_false, reduceIte, Nat.reduceAdd, Nat.reduceMul, Nat.reduceLT, false_implies, Decidable.not_not, bI_eq0, bI_eq1, upd_at, updL_at, Nat.succ_ne_zero, Int32.reduceToNatClampNeg, eq_self, i01, i10]; exact hF, by simp only [jN_uI, jN_uJ, jN_uR, jK_uI, jK_uJ, jK_uR, jZ_uI, jZ_uJ, jZ_uR, jR_uI, jR_uJ, jr_uI, jr_uJ, jI_uJ, jI_uR, jJ_uI, jJ_uR, jI_uI_eq, jI_uI_ne, jJ_uJ_eq, jJ_uJ_ne, jSh_uI, jSh_uJ, jA_uI, jA_uJ, jA_uR, jI_uIf_eq, jI_uIf_ne, jJ_uIf, jR_uIf, jr_uIf, jZ_uIf, jSh_uIf, jA_uIf, ne_eq, not_false_eq_true, not_true_eq_false, reduceCtorEq, Nat.reduceEqDiff, forall_eq, true_and, and_true, true_implies, forall_const, implies_true, List.mem_cons, List.not_mem_nil, or_false, false_or, or_self, if_true, if_false, reduceIte, Nat.reduceAdd, Nat.reduceMul, Nat.reduceLT, false_implies, Decidable.not_not, bI_eq0, bI_eq1, upd_at, updL_at, Nat.succ_ne_zero, Int32.reduceToNatClampNeg, eq_self, i01, i10]; rfl, fun i hi => ?_⟩
    · rintro d _ hd ⟨S2, rfl, f2, j1, j2, j3⟩
      have hs2 : jSh S2 := f2.sh.mpr hs
      unfold bX7_chooseStart_32 wX7_chooseStart_68 wX11_placeOf
      simp only [shA_1, shA_29, shA_31, shZ_31, shA_32, shZ_32, shA_33, shZ_33, shR_1_4, shr_1_4, shR_1_5, shr_1_5, shR_1_6, shr_1_6, shR_1_9, shr_1_9, shR_1_11, shr_1_11, shR_29_0, shr_29_0, shR_29_1, shr_29_1, shR_29_2, shr_29_2, shR_29_3, shr_29_3, shR_29_4, shr_29_4, hs2, nI_1, pl0, f2.I 1 (by decide), f2.I 31 (by decide), f2.J 32 (by decide), e0, j1, j2, jN_uI, jN_uJ, jN_uR, jK_uI, jK_uJ, jK_uR, jZ_uI, jZ_uJ, jZ_uR, jR_uI, jR_uJ, jr_uI, jr_uJ, jI_uJ, jI_uR, jJ_uI, jJ_uR, jI_uI_eq, jI_uI_ne, jJ_uJ_eq, jJ_uJ_ne, jSh_uI, jSh_uJ, jA_uI, jA_uJ, jA_uR, jI_uIf_eq, jI_uIf_ne, jJ_uIf, jR_uIf, jr_uIf, jZ_uIf, jSh_uIf, jA_uIf, ne_eq, not_false_eq_true, not_true_eq_false, reduceCtorEq, Nat.reduceEqDiff, forall_eq, true_and, and_true, true_implies, forall_const, implies_true, List.mem_cons, List.not_mem_nil, or_false, false_or, or_self, if_true, if_false, reduceIte, Nat.reduceAdd, Nat.reduceMul, Nat.reduceLT, false_implies, Decidable.not_not, bI_eq0, bI_eq1, upd_at, updL_at, Nat.succ_ne_zero, Int32.reduceToNatClampNeg, eq_self, i01, i10]
      rw [nI_le' (by omega) (by omega)]
      refine ⟨fun q => h S2 f2 j1 (by rw [j2, show d = gR (jI S 47) by omega]) (fun i hi => (j3 i hi).trans ⟨fun z => z.2, fun z => ⟨by have := z.1; omega, z⟩⟩), fun q => ?_⟩
      obtain ⟨a1, a2, a3⟩ := hf d (by omega)
      rw [nI_tn (by omega), a1, a2, nI_eq' (by omega) (by omega)]
      refine ⟨nI_in2 (by omega) (by omega), fun z => ⟨by omega, S2, rfl, f2, j1, ?_, fun i hi => (j3 i hi).trans ⟨fun y => ⟨by omega, y.2⟩, fun y => ⟨?_, y.2⟩⟩⟩, fun z => ⟨nI_in2 (n := 0) (by omega) (by omega), nI_in2 (by omega) (by omega), by omega, _, rfl, (f2.uI (by decide)).uJ (by decide), ?_, ?_, fun i hi => ?_⟩⟩
      · rw [gNu, pick_f z]; exact j2
      · rcases Nat.lt_or_ge i d with l | l
        · exact l
        · have : i = d := by omega
          subst this; exact absurd y.2.2 z
      · simp only [jN_uI, jN_uJ, jN_uR, jK_uI, jK_uJ, jK_uR, jZ_uI, jZ_uJ, jZ_uR, jR_uI, jR_uJ, jr_uI, jr_uJ, jI_uJ, jI_uR, jJ_uI, jJ_uR, jI_uI_eq, jI_uI_ne, jJ_uJ_eq, jJ_uJ_ne, jSh_uI, jSh_uJ, jA_uI, jA_uJ, jA_uR, jI_uIf_eq, jI_uIf_ne, jJ_uIf, jR_uIf, jr_uIf, jZ_uIf, jSh_uIf, jA_uIf, ne_eq, not_false_eq_true, not_true_eq_false, reduceCtorEq, Nat.reduceEqDiff, forall_eq, true_and, and_true, true_implies, forall_const, implies_true, List.mem_cons, List.not_mem_nil, or_false, false_or, or_self, if_true, if_false, reduceIte, Nat.reduceAdd, Nat.reduceMul, Nat.reduceLT, false_implies, Decidable.not_not, bI_eq0, bI_eq1, upd_at, updL_at, Nat.succ_ne_zero, Int32.reduceToNatClampNeg, eq_self, i01, i10]; exact j1
      · simp only [jN_uI, jN_uJ, jN_uR, jK_uI, jK_uJ, jK_uR, jZ_uI, jZ_uJ, jZ_uR, jR_uI, jR_uJ, jr_uI, jr_uJ, jI_uJ, jI_uR, jJ_uI, jJ_uR, jI_uI_eq, jI_uI_ne, jJ_uJ_eq, jJ_uJ_ne, jSh_uI, jSh_uJ, jA_uI, jA_uJ, jA_uR, jI_uIf_eq, jI_uIf_ne, jJ_uIf, jR_uIf, jr_uIf, jZ_uIf, jSh_uIf, jA_uIf, ne_eq, not_false_eq_true, not_true_eq_false, reduceCtorEq, Nat.reduceEqDiff, forall_eq, true_and, and_true, true_implies, forall_const, implies_true, List.mem_cons, List.not_mem_nil, or_false, false_or, or_self, if_true, if_false, reduceIte, Nat.reduceAdd, Nat.reduceMul, Nat.reduceLT, false_implies, Decidable.not_not, bI_eq0, bI_eq1, upd_at, updL_at, Nat.succ_ne_zero, Int32.reduceToNatClampNeg, eq_self, i01, i10]
        rw [gNu, pick_t z, lN_add, lil]
        have w := gW_b (jI S 47) 59 d
        have u : gNu (jI S 47) d ≤ 1000000000000 := by rw [gNu_v]; omega
        have h9 : gNu (jI S 47) d + gW (jI S 47) 59 d < 9000000000000000 := by omega
        generalize gNu (jI S 47) d + gW (jI S 47) 59 d = W at h9 ⊢
        simp only [lN_lt' h9 (show 1000000000000 < 9000000000000000 by decide)]
        split
        · congr 1; omega
        · congr 1; omega
      · simp only [jN_uI, jN_uJ, jN_uR, jK_uI, jK_uJ, jK_uR, jZ_uI, jZ_uJ, jZ_uR, jR_uI, jR_uJ, jr_uI, jr_uJ, jI_uJ, jI_uR, jJ_uI, jJ_uR, jI_uI_eq, jI_uI_ne, jJ_uJ_eq, jJ_uJ_ne, jSh_uI, jSh_uJ, jA_uI, jA_uJ, jA_uR, jI_uIf_eq, jI_uIf_ne, jJ_uIf, jR_uIf, jr_uIf, jZ_uIf, jSh_uIf, jA_uIf, ne_eq, not_false_eq_true, not_true_eq_false, reduceCtorEq, Nat.reduceEqDiff, forall_eq, true_and, and_true, true_implies, forall_const, implies_true, List.mem_cons, List.not_mem_nil, or_false, false_or, or_self, if_true, if_false, reduceIte, Nat.reduceAdd, Nat.reduceMul, Nat.reduceLT, false_implies, Decidable.not_not, bI_eq0, bI_eq1, upd_at, updL_at, Nat.succ_ne_zero, Int32.reduceToNatClampNeg, eq_self, i01, i10]
        rw [b_set (by omega) hi, Bool.or_eq_true, j3 i hi, decide_eq_true_iff]
        constructor
        · rintro (y | y)
          · exact ⟨by omega, y.2⟩
          · subst y; exact ⟨by omega, by omega, z⟩
        · intro y
          rcases Nat.lt_or_ge i d with l | l
          · exact Or.inl ⟨l, y.2⟩
          · exact Or.inr (by omega)
    · simp only [jN_uI, jN_uJ, jN_uR, jK_uI, jK_uJ, jK_uR, jZ_uI, jZ_uJ, jZ_uR, jR_uI, jR_uJ, jr_uI, jr_uJ, jI_uJ, jI_uR, jJ_uI, jJ_uR, jI_uI_eq, jI_uI_ne, jJ_uJ_eq, jJ_uJ_ne, jSh_uI, jSh_uJ, jA_uI, jA_uJ, jA_uR, jI_uIf_eq, jI_uIf_ne, jJ_uIf, jR_uIf, jr_uIf, jZ_uIf, jSh_uIf, jA_uIf, ne_eq, not_false_eq_true, not_true_eq_false, reduceCtorEq, Nat.reduceEqDiff, forall_eq, true_and, and_true, true_implies, forall_const, implies_true, List.mem_cons, List.not_mem_nil, or_false, false_or, or_self, if_true, if_false, reduceIte, Nat.reduceAdd, Nat.reduceMul, Nat.reduceLT, false_implies, Decidable.not_not, bI_eq0, bI_eq1, upd_at, updL_at, Nat.succ_ne_zero, Int32.reduceToNatClampNeg, eq_self, i01, i10]
      rw [b_0]; exact ⟨fun z => by (cases z), fun z => absurd z.1 (Nat.not_lt_zero _)⟩
  · obtain ⟨a1, a2, a3⟩ := hf c (by omega)
    rw [nI_tn (by omega), a1]
    refine ⟨nI_in2 (by omega) (by omega), by omega, _, rfl, f1.uI (by decide), Or.inr ⟨by omega, ?_⟩⟩
    simp only [jN_uI, jN_uJ, jN_uR, jK_uI, jK_uJ, jK_uR, jZ_uI, jZ_uJ, jZ_uR, jR_uI, jR_uJ, jr_uI, jr_uJ, jI_uJ, jI_uR, jJ_uI, jJ_uR, jI_uI_eq, jI_uI_ne, jJ_uJ_eq, jJ_uJ_ne, jSh_uI, jSh_uJ, jA_uI, jA_uJ, jA_uR, jI_uIf_eq, jI_uIf_ne, jJ_uIf, jR_uIf, jr_uIf, jZ_uIf, jSh_uIf, jA_uIf, ne_eq, not_false_eq_true, not_true_eq_false, reduceCtorEq, Nat.reduceEqDiff, forall_eq, true_and, and_true, true_implies, forall_const, implies_true, List.mem_cons, List.not_mem_nil, or_false, false_or, or_self, if_true, if_false, reduceIte, Nat.reduceAdd, Nat.reduceMul, Nat.reduceLT, false_implies, Decidable.not_not, bI_eq0, bI_eq1, upd_at, updL_at, Nat.succ_ne_zero, Int32.reduceToNatClampNeg, eq_self, i01, i10]
    have mt := mn_top (fun _ => True) (gD (jI S 47) 59) c
    rcases hi with ⟨z, z1⟩ | ⟨z, z1, z2⟩ <;> rw [z1]
    · subst z
      simp (disch := omega) only [nI_lt']
      rw [if_pos (by omega), mn, pick_t ⟨trivial, by rw [mn]; omega⟩]
      exact ⟨rfl, a3⟩
    · simp (disch := omega) only [nI_lt']
      rw [mn]
      split
      · rw [pick_t ⟨trivial, by assumption⟩]; exact ⟨rfl, a3⟩
      · rw [pick_f (fun y => by omega)]; exact ⟨rfl, z2⟩
theorem sX7_bestSteps {S : JS} {Q : Int32 → JS → Prop} {r n : Nat} (hs : jSh S) (hm : MW S) (hr : r < gR (jI S 47)) (hn : n < 59) (hx : slOk (jI S 47) n r (jI S 27 (n * 9 + r))) (hl : jI S 30 (n * 9 + r) = nI (gLs (jI S 47) n r)) (hk : lsOk S n) (h : ∀ x, (∀ i, i < 32 → (bt x i = true ↔ gBs (jI S 47) n r i)) → Q x S) : wX7_bestSteps 29 23 (nI r) (nI n) S Q := by
  obtain ⟨R1, R2, R3⟩ := hm.1.1
  have hL : gLs (jI S 47) n r ≤ gD (jI S 47) (59 - n) r := by
    obtain ⟨k, e1, e3⟩ : ∃ k, 59 - n = k + 1 ∧ 58 - k = n := ⟨58 - n, by omega, by omega⟩
    rw [e1, gD, e3]; omega
  have hD := gD_16 hm.1 (k := 59 - n) (by omega) hr
  unfold wX7_bestSteps
  refine ⟨shA_23 hs, sX1_steps hs (by omega) (by omega) hx (fun x hx => ?_)⟩
  unfold wX11_placeOf
  simp only [shA_29, shA_30, shZ_30, shA_31, shZ_31, shR_29_0, shr_29_0, shR_29_1, shr_29_1, shR_29_2, shr_29_2, shR_29_3, shr_29_3, shR_29_4, shr_29_4, hs, pl_nI, ne_eq, not_false_eq_true, not_true_eq_false, reduceCtorEq, Nat.reduceEqDiff, forall_eq, true_and, and_true, true_implies, forall_const, implies_true, List.mem_cons, List.not_mem_nil, or_false, false_or, or_self, if_true, if_false, reduceIte, Nat.reduceAdd, Nat.reduceMul, Nat.reduceLT, false_implies, Decidable.not_not, bI_eq0, bI_eq1, upd_at, updL_at, Nat.succ_ne_zero, Int32.reduceToNatClampNeg, eq_self, i01, i10]
  rw [nI_tn (by omega), hl, (hk n r (Nat.le_refl _) (by omega) hr).1, nI_sub hL]
  refine ⟨nI_in2 (by omega) (by omega), nI_in2 (by omega) (by omega), ?_⟩
  unfold wX7_bestSteps_23
  refine jLoop.cnt 9 (fun c q => ∃ y, q = (29, nI n, x, nI (gD (jI S 47) (59 - n) r - gLs (jI S 47) n r), y, nI c, S) ∧ ∀ i, i < 32 → (bt y i = true ↔ i < c ∧ gBs (jI S 47) n r i)) 0 (by omega) ?_ ⟨0, rfl, fun i hi => by rw [b_0]; exact ⟨fun z => by (cases z), fun z => absurd z.1 (Nat.not_lt_zero _)⟩⟩
  rintro c _ hc ⟨y, rfl, hy⟩
  unfold bX7_bestSteps_23 wX7_bestSteps_46
  simp only
  rw [li_9, nI_le' (by omega) (by omega)]
  refine ⟨fun q => h y (fun i hi => (hy i hi).trans ⟨fun z => z.2, fun z => ⟨by have := gSt_lt z.1 hr; omega, z⟩⟩), fun q => ?_⟩
  have skip : ¬ gBs (jI S 47) n r c → c < 9 ∧ ∃ y_1, (29, nI n, x, nI (gD (jI S 47) (59 - n) r - gLs (jI S 47) n r), y, nI (c + 1), S) = (29, nI n, x, nI (gD (jI S 47) (59 - n) r - gLs (jI S 47) n r), y_1, nI (c + 1), S) ∧ ∀ i, i < 32 → (bt y_1 i = true ↔ i < c + 1 ∧ gBs (jI S 47) n r i) := by
    intro hg
    refine ⟨by omega, y, rfl, fun i hi => (hy i hi).trans ⟨fun z => ⟨by omega, z.2⟩, fun z => ⟨?_, z.2⟩⟩⟩
    rcases Nat.lt_or_ge i c with l | l
    · exact l
    · have : i = c := by omega
      subst this; exact absurd z.2 hg
  refine sX11_hasBit (by omega) (fun hb => ?_) (fun hb => ?_)
  · have hg := (hx c (by omega)).mp hb
    have hcR := gSt_lt hg hr
    have a1 := (hk (n + 1) c (by omega) (by omega) hcR).1
    have hD2 := gD_16 hm.1 (k := 59 - (n + 1)) (by omega) hcR
    unfold wX11_placeOf
    simp only [shA_29, shA_31, shZ_31, shR_29_0, shr_29_0, shR_29_1, shr_29_1, shR_29_2, shr_29_2, shR_29_3, shr_29_3, shR_29_4, shr_29_4, hs, nI_1, pl_nI, ne_eq, not_false_eq_true, not_true_eq_false, reduceCtorEq, Nat.reduceEqDiff, forall_eq, true_and, and_true, true_implies, forall_const, implies_true, List.mem_cons, List.not_mem_nil, or_false, false_or, or_self, if_true, if_false, reduceIte, Nat.reduceAdd, Nat.reduceMul, Nat.reduceLT, false_implies, Decidable.not_not, bI_eq0, bI_eq1, upd_at, updL_at, Nat.succ_ne_zero, Int32.reduceToNatClampNeg, eq_self, i01, i10]
    rw [nI_tn (by omega), a1, nI_eq' (by omega) (by omega)]
    refine ⟨nI_in2 (by omega) (by omega), fun z => skip (fun w => by have := w.2; omega), fun z => ⟨by omega, _, rfl, fun i hi => ?_⟩⟩
    rw [b_set (by omega) hi, Bool.or_eq_true, hy i hi, decide_eq_true_iff]
    constructor
    · rintro (w | w)
      · exact ⟨by omega, w.2⟩
      · subst w; exact ⟨by omega, hg, by omega⟩
    · intro w
      rcases Nat.lt_or_ge i c with l | l
      · exact Or.inl ⟨l, w.2⟩
      · exact Or.inr (by omega)
  · simp only [nI_1, ne_eq, not_false_eq_true, not_true_eq_false, reduceCtorEq, Nat.reduceEqDiff, forall_eq, true_and, and_true, true_implies, forall_const, implies_true, List.mem_cons, List.not_mem_nil, or_false, false_or, or_self, if_true, if_false, reduceIte, Nat.reduceAdd, Nat.reduceMul, Nat.reduceLT, false_implies, Decidable.not_not, bI_eq0, bI_eq1, upd_at, updL_at, Nat.succ_ne_zero, Int32.reduceToNatClampNeg, eq_self, i01, i10]
    exact skip (fun w => hb ((hx c (by omega)).mpr w.1))
theorem sX7_lowestOf {S : JS} {Q : Int32 → JS → Prop} {x : Int32} {k : Nat} (hk : k < 9) (h1 : IsLow (fun i => bt x i = true) k) (h : Q (nI k) S) : wX7_lowestOf x S Q := by
  unfold wX7_lowestOf wX7_lowestOf_2
  refine jLoop.cnt k (fun c q => q = (x, nI c, S)) 0 (by omega) ?_ rfl
  rintro c _ hc rfl
  unfold bX7_lowestOf_2
  simp only
  rw [li_9, nI_le' (by omega) (by omega)]
  refine ⟨fun q => by omega, fun q => sX11_hasBit (by omega) (fun hb => ⟨fun z => absurd z (by decide), fun _ => ?_⟩) (fun hb => ⟨fun _ => nm_r (nI_1 c) ⟨?_, rfl⟩, fun z => absurd rfl z⟩)⟩
  · rcases Nat.lt_or_ge c k with l | l
    · exact absurd hb (h1.2 c l)
    · rw [show c = k by omega]; exact h
  · rcases Nat.lt_or_ge c k with l | l
    · exact l
    · rw [show c = k by omega] at hb; exact absurd h1.1 hb
theorem sX7_followLikely {S : JS} {Q : JS → Prop} (hs : jSh S) (hm : MW S) (hx : knS S 0 60) (hl : ∀ n r, n < 60 → r < gR (jI S 47) → jI S 30 (n * 9 + r) = nI (gLs (jI S 47) n r)) (hk : lsOk S 0) (h0 : ∀ i, i < 32 → (bt (jI S 33 0) i = true ↔ gFo (jI S 47) 0 i)) (h : ∀ S', jFr [33] S S' → (∀ n, n < 60 → ∀ i, i < 32 → (bt (jI S' 33 n) i = true ↔ gFo (jI S 47) n i)) → Q S') : wX7_followLikely 29 23 S Q := by
  obtain ⟨R1, R2, R3⟩ := hm.1.1
  unfold wX7_followLikely wX7_followLikely_2
  refine jLoop.cnt 59 (fun n q => ∃ S', q = (29, 23, nI n, S') ∧ jFr [33] S S' ∧ ∀ m, m ≤ n → ∀ i, i < 32 → (bt (jI S' 33 m) i = true ↔ gFo (jI S 47) m i)) 0 (by omega) ?_ ⟨S, rfl, jFr.refl _ _, fun m q => by rw [show m = 0 by omega]; exact h0⟩
  rintro n _ hn ⟨S1, rfl, f1, j1⟩
  unfold bX7_followLikely_2
  simp only
  rw [li_59, nI_le' (by omega) (by omega)]
  refine ⟨fun q => h S1 f1 (fun m hm => j1 m (by omega)), fun q => ?_⟩
  unfold wX7_followLikely_9
  refine jLoop.cnt 9 (fun c q => ∃ x, q = (29, 23, nI n, x, nI c, S1) ∧ ∀ i, i < 32 → (bt x i = true ↔ ∃ r, r < c ∧ r < gR (jI S 47) ∧ gFo (jI S 47) n r ∧ gBs (jI S 47) n r i)) 0 (by omega) ?_ ⟨0, rfl, fun i hi => by rw [b_0]; exact ⟨fun z => by (cases z), fun ⟨r, z, _⟩ => absurd z (Nat.not_lt_zero _)⟩⟩
  rintro c _ hc ⟨x, rfl, hx2⟩
  have hs1 : jSh S1 := f1.sh.mpr hs
  have hm1 : MW S1 := hm.fr f1 (by decide) (by decide)
  have e47 : jI S1 47 = jI S 47 := f1.I 47 (by decide)
  unfold bX7_followLikely_9 wX7_followLikely_27
  simp only [shA_29, shA_33, shZ_33, shR_29_0, shr_29_0, shR_29_1, shr_29_1, shR_29_2, shr_29_2, shR_29_3, shr_29_3, shR_29_4, shr_29_4, hs1, nI_1, ne_eq, not_false_eq_true, not_true_eq_false, reduceCtorEq, Nat.reduceEqDiff, forall_eq, true_and, and_true, true_implies, forall_const, implies_true, List.mem_cons, List.not_mem_nil, or_false, false_or, or_self, if_true, if_false, reduceIte, Nat.reduceAdd, Nat.reduceMul, Nat.reduceLT, false_implies, Decidable.not_not, bI_eq0, bI_eq1, upd_at, updL_at, Nat.succ_ne_zero, Int32.reduceToNatClampNeg, eq_self, i01, i10]
  rw [li_9, nI_le' (by omega) (by omega), nI_tn (by omega), nI_tn (by omega)]
  refine ⟨fun z => ⟨nI_in2 (by omega) (by omega), by omega, _, rfl, f1.uI (by decide), fun m hm i hi => ?_⟩, fun z => ⟨nI_in2 (by omega) (by omega), ?_⟩⟩
  · simp only [jN_uI, jN_uJ, jN_uR, jK_uI, jK_uJ, jK_uR, jZ_uI, jZ_uJ, jZ_uR, jR_uI, jR_uJ, jr_uI, jr_uJ, jI_uJ, jI_uR, jJ_uI, jJ_uR, jI_uI_eq, jI_uI_ne, jJ_uJ_eq, jJ_uJ_ne, jSh_uI, jSh_uJ, jA_uI, jA_uJ, jA_uR, jI_uIf_eq, jI_uIf_ne, jJ_uIf, jR_uIf, jr_uIf, jZ_uIf, jSh_uIf, jA_uIf, ne_eq, not_false_eq_true, not_true_eq_false, reduceCtorEq, Nat.reduceEqDiff, forall_eq, true_and, and_true, true_implies, forall_const, implies_true, List.mem_cons, List.not_mem_nil, or_false, false_or, or_self, if_true, if_false, reduceIte, Nat.reduceAdd, Nat.reduceMul, Nat.reduceLT, false_implies, Decidable.not_not, bI_eq0, bI_eq1, upd_at, updL_at, Nat.succ_ne_zero, Int32.reduceToNatClampNeg, eq_self, i01, i10]
    split
    · rename_i e; subst e
      rw [hx2 i hi, gFo]
      exact ⟨fun ⟨r, r1, r2, r3, r4⟩ => ⟨r, r2, r3, r4⟩, fun ⟨r, r2, r3, r4⟩ => ⟨r, by omega, r2, r3, r4⟩⟩
    · exact j1 m (by omega) i hi
  · refine sX11_hasBit (by omega) (fun hb => ?_) (fun hb => ?_)
    · have hg := (j1 n (Nat.le_refl _) c (by omega)).mp hb
      have hcR := gFo_lt hg
      simp only [shA_29, shR_29_0, shr_29_0, shR_29_1, shr_29_1, shR_29_2, shr_29_2, shR_29_3, shr_29_3, shR_29_4, shr_29_4, hs1, ne_eq, not_false_eq_true, not_true_eq_false, reduceCtorEq, Nat.reduceEqDiff, forall_eq, true_and, and_true, true_implies, forall_const, implies_true, List.mem_cons, List.not_mem_nil, or_false, false_or, or_self, if_true, if_false, reduceIte, Nat.reduceAdd, Nat.reduceMul, Nat.reduceLT, false_implies, Decidable.not_not, bI_eq0, bI_eq1, upd_at, updL_at, Nat.succ_ne_zero, Int32.reduceToNatClampNeg, eq_self, i01, i10]
      refine sX7_bestSteps hs1 hm1 (by rw [e47]; exact hcR) (by omega) ?_ ?_ (lsOk.fr f1 (by decide) (fun m r q1 q2 q3 => hk m r (by omega) q2 q3)) (fun y hy => ?_)
      · rw [e47, f1.I 27 (by decide)]; exact hx n c (by omega) (by omega) (by omega)
      · rw [e47, f1.I 30 (by decide)]; exact hl n c (by omega) hcR
      · rw [e47] at hy
        refine ⟨by omega, _, rfl, fun i hi => ?_⟩
        rw [b_or, Bool.or_eq_true, hx2 i hi, hy i hi]
        constructor
        · rintro (⟨r, r1, r2⟩ | w)
          · exact ⟨r, by omega, r2⟩
          · exact ⟨c, by omega, hcR, hg, w⟩
        · rintro ⟨r, r1, r2, r3, r4⟩
          rcases Nat.lt_or_ge r c with l | l
          · exact Or.inl ⟨r, l, r2, r3, r4⟩
          · have : r = c := by omega
            subst this; exact Or.inr r4
    · simp only [nI_1, ne_eq, not_false_eq_true, not_true_eq_false, reduceCtorEq, Nat.reduceEqDiff, forall_eq, true_and, and_true, true_implies, forall_const, implies_true, List.mem_cons, List.not_mem_nil, or_false, false_or, or_self, if_true, if_false, reduceIte, Nat.reduceAdd, Nat.reduceMul, Nat.reduceLT, false_implies, Decidable.not_not, bI_eq0, bI_eq1, upd_at, updL_at, Nat.succ_ne_zero, Int32.reduceToNatClampNeg, eq_self, i01, i10]
      refine ⟨by omega, _, rfl, fun i hi => (hx2 i hi).trans ⟨fun ⟨r, r1, r2⟩ => ⟨r, by omega, r2⟩, fun ⟨r, r1, r2, r3, r4⟩ => ⟨r, ?_, r2, r3, r4⟩⟩⟩
      rcases Nat.lt_or_ge r c with l | l
      · exact l
      · have : r = c := by omega
        subst this; exact absurd ((j1 n (Nat.le_refl _) r (by omega)).mpr r3) hb
theorem low_ex {P : Nat → Prop} (h : ∃ k, P k) : ∃ k, IsLow P k := by
  obtain ⟨k, k1, k2⟩ := pk_least P h
  exact ⟨k, k1, k2⟩
theorem gBs_ex {row : Nat → Int32} (hr : RowOk row) {n r : Nat} (hn : n < 59) (h : r < gR row) : ∃ b, IsLow (gBs row n r) b := by
  obtain ⟨_, b, b1, b2, b3⟩ := gD_step hr hn h
  exact low_ex ⟨b, b2, b3⟩
theorem low_bits {P : Nat → Prop} {x : Int32} {k : Nat} (hx : ∀ i, i < 32 → (bt x i = true ↔ P i)) (hk : k < 32) (h : IsLow P k) : IsLow (fun i => bt x i = true) k := ⟨(hx k hk).mpr h.1, fun j hj z => h.2 j hj ((hx j (by omega)).mp z)⟩
theorem sX7_followFirst {S : JS} {Q : JS → Prop} (hs : jSh S) (hm : MW S) (hx : knS S 0 60) (hl : ∀ n r, n < 60 → r < gR (jI S 47) → jI S 30 (n * 9 + r) = nI (gLs (jI S 47) n r)) (hk : lsOk S 0) (h0 : ∀ i, i < 32 → (bt (jI S 33 0) i = true ↔ gFo (jI S 47) 0 i)) (h : ∀ S' w, jFr [34] S S' → FwOk (jI S 47) w 59 → (∀ n, n < 60 → jI S' 34 n = nI (w n)) → Q S') : wX7_followFirst 29 23 S Q := by
  obtain ⟨R1, R2, R3⟩ := hm.1.1
  obtain ⟨k, hk0⟩ := low_ex (P := gFo (jI S 47) 0) (by obtain ⟨r, r1, r2⟩ := gF_ex hm.1; exact ⟨r, r1, r2⟩)
  have kR := hk0.1.1
  unfold wX7_followFirst
  simp only [shA_29, shA_33, shZ_33, shA_34, shZ_34, shR_29_0, shr_29_0, shR_29_1, shr_29_1, shR_29_2, shr_29_2, shR_29_3, shr_29_3, shR_29_4, shr_29_4, hs, ne_eq, not_false_eq_true, not_true_eq_false, reduceCtorEq, Nat.reduceEqDiff, forall_eq, true_and, and_true, true_implies, forall_const, implies_true, List.mem_cons, List.not_mem_nil, or_false, false_or, or_self, if_true, if_false, reduceIte, Nat.reduceAdd, Nat.reduceMul, Nat.reduceLT, false_implies, Decidable.not_not, bI_eq0, bI_eq1, upd_at, updL_at, Nat.succ_ne_zero, Int32.reduceToNatClampNeg, eq_self, i01, i10]
  refine ⟨nI_in2 (n := 0) (by omega) (by omega), sX7_lowestOf (k := k) (by omega) (low_bits h0 (by omega) hk0) ?_⟩
  simp only [shA_29, shA_33, shZ_33, shA_34, shZ_34, shR_29_0, shr_29_0, shR_29_1, shr_29_1, shR_29_2, shr_29_2, shR_29_3, shr_29_3, shR_29_4, shr_29_4, hs, ne_eq, not_false_eq_true, not_true_eq_false, reduceCtorEq, Nat.reduceEqDiff, forall_eq, true_and, and_true, true_implies, forall_const, implies_true, List.mem_cons, List.not_mem_nil, or_false, false_or, or_self, if_true, if_false, reduceIte, Nat.reduceAdd, Nat.reduceMul, Nat.reduceLT, false_implies, Decidable.not_not, bI_eq0, bI_eq1, upd_at, updL_at, Nat.succ_ne_zero, Int32.reduceToNatClampNeg, eq_self, i01, i10]
  refine ⟨nI_in2 (n := 0) (by omega) (by omega), ?_⟩
  unfold wX7_followFirst_11
  refine jLoop.cnt 59 (fun n q => ∃ S' w, q = (29, 23, nI n, S') ∧ jFr [34] S S' ∧ FwOk (jI S 47) w n ∧ ∀ m, m ≤ n → jI S' 34 m = nI (w m)) 0 (by omega) ?_ ⟨_, fun _ => k, rfl, (jFr.refl _ _).uI (by decide), ⟨hk0, fun n q => absurd q (Nat.not_lt_zero _)⟩, fun m q => by simp only [jN_uI, jN_uJ, jN_uR, jK_uI, jK_uJ, jK_uR, jZ_uI, jZ_uJ, jZ_uR, jR_uI, jR_uJ, jr_uI, jr_uJ, jI_uJ, jI_uR, jJ_uI, jJ_uR, jI_uI_eq, jI_uI_ne, jJ_uJ_eq, jJ_uJ_ne, jSh_uI, jSh_uJ, jA_uI, jA_uJ, jA_uR, jI_uIf_eq, jI_uIf_ne, jJ_uIf, jR_uIf, jr_uIf, jZ_uIf, jSh_uIf, jA_uIf, ne_eq, not_false_eq_true, not_true_eq_false, reduceCtorEq, Nat.reduceEqDiff, forall_eq, true_and, and_true, true_implies, forall_const, implies_true, List.mem_cons, List.not_mem_nil, or_false, false_or, or_self, if_true, if_false, reduceIte, Nat.reduceAdd, Nat.reduceMul, Nat.reduceLT, false_implies, Decidable.not_not, bI_eq0, bI_eq1, upd_at, updL_at, Nat.succ_ne_zero, Int32.reduceToNatClampNeg, eq_self, i01, i10]; rw [if_pos (by omega)]⟩
  rintro n _ hn ⟨S1, w, rfl, f1, w1, w2⟩
  have hs1 : jSh S1 := f1.sh.mpr hs
  have hm1 : MW S1 := hm.fr f1 (by decide) (by decide)
  have e47 : jI S1 47 = jI S 47 := f1.I 47 (by decide)
  have wR := w1.lt n (Nat.le_refl _)
  unfold bX7_followFirst_11
  simp only [shA_29, shA_34, shZ_34, shR_29_0, shr_29_0, shR_29_1, shr_29_1, shR_29_2, shr_29_2, shR_29_3, shr_29_3, shR_29_4, shr_29_4, hs1, ne_eq, not_false_eq_true, not_true_eq_false, reduceCtorEq, Nat.reduceEqDiff, forall_eq, true_and, and_true, true_implies, forall_const, implies_true, List.mem_cons, List.not_mem_nil, or_false, false_or, or_self, if_true, if_false, reduceIte, Nat.reduceAdd, Nat.reduceMul, Nat.reduceLT, false_implies, Decidable.not_not, bI_eq0, bI_eq1, upd_at, updL_at, Nat.succ_ne_zero, Int32.reduceToNatClampNeg, eq_self, i01, i10]
  rw [li_59, nI_le' (by omega) (by omega), nI_tn (by omega), w2 n (Nat.le_refl _)]
  refine ⟨fun q => h S1 w f1 (by rw [show n = 59 by omega] at w1; exact w1) (fun m hm => w2 m (by omega)), fun q => ⟨nI_in2 (by omega) (by omega), ?_⟩⟩
  refine sX7_bestSteps hs1 hm1 (by rw [e47]; exact wR) (by omega) ?_ ?_ (lsOk.fr f1 (by decide) (fun m r q1 q2 q3 => hk m r (by omega) q2 q3)) (fun y hy => ?_)
  · rw [e47, f1.I 27 (by decide)]; exact hx n _ (by omega) (by omega) (by omega)
  · rw [e47, f1.I 30 (by decide)]; exact hl n _ (by omega) wR
  · rw [e47] at hy
    obtain ⟨b, hb⟩ := gBs_ex hm.1 (show n < 59 by omega) wR
    have bR := gSt_lt hb.1.1 wR
    refine sX7_lowestOf (k := b) (by omega) (low_bits hy (by omega) hb) ?_
    simp only [shA_29, shA_34, shZ_34, shR_29_0, shr_29_0, shR_29_1, shr_29_1, shR_29_2, shr_29_2, shR_29_3, shr_29_3, shR_29_4, shr_29_4, hs1, nI_1, ne_eq, not_false_eq_true, not_true_eq_false, reduceCtorEq, Nat.reduceEqDiff, forall_eq, true_and, and_true, true_implies, forall_const, implies_true, List.mem_cons, List.not_mem_nil, or_false, false_or, or_self, if_true, if_false, reduceIte, Nat.reduceAdd, Nat.reduceMul, Nat.reduceLT, false_implies, Decidable.not_not, bI_eq0, bI_eq1, upd_at, updL_at, Nat.succ_ne_zero, Int32.reduceToNatClampNeg, eq_self, i01, i10]
    rw [nI_tn (by omega)]
    refine ⟨nI_in2 (by omega) (by omega), by omega, _, fun m => if m ≤ n then w m else b, rfl, f1.uI (by decide), ⟨?_, fun m hm => ?_⟩, fun m hm => ?_⟩
    · simp only [Nat.zero_le, if_true]; exact w1.1
    · simp only
      rw [if_pos (by omega)]
      by_cases e : m = n
      · subst e; rw [if_neg (by omega)]; exact hb
      · rw [if_pos (by omega)]; exact w1.2 m (by omega)
    · simp only [jN_uI, jN_uJ, jN_uR, jK_uI, jK_uJ, jK_uR, jZ_uI, jZ_uJ, jZ_uR, jR_uI, jR_uJ, jr_uI, jr_uJ, jI_uJ, jI_uR, jJ_uI, jJ_uR, jI_uI_eq, jI_uI_ne, jJ_uJ_eq, jJ_uJ_ne, jSh_uI, jSh_uJ, jA_uI, jA_uJ, jA_uR, jI_uIf_eq, jI_uIf_ne, jJ_uIf, jR_uIf, jr_uIf, jZ_uIf, jSh_uIf, jA_uIf, ne_eq, not_false_eq_true, not_true_eq_false, reduceCtorEq, Nat.reduceEqDiff, forall_eq, true_and, and_true, true_implies, forall_const, implies_true, List.mem_cons, List.not_mem_nil, or_false, false_or, or_self, if_true, if_false, reduceIte, Nat.reduceAdd, Nat.reduceMul, Nat.reduceLT, false_implies, Decidable.not_not, bI_eq0, bI_eq1, upd_at, updL_at, Nat.succ_ne_zero, Int32.reduceToNatClampNeg, eq_self, i01, i10]
      split
      · rw [if_neg (by omega)]
      · rw [if_pos (by omega)]; exact w2 m (by omega)
theorem sX7_solve {S : JS} {Q : JS → Prop} (hs : jSh S) (hm : MW S) (hx : knS S 0 60) (h : ∀ S', jFr [29, 30, 31, 32, 33, 34] S S' → SvOk (jI S 47) (jI S' 29 5) (jJ S' 29 6) (jI S' 33) (jI S' 34) → Q S') : wX7_solve 29 1 23 S Q := by
  obtain ⟨R1, R2, R3⟩ := hm.1.1
  have e0 : jI S 1 0 = nI (gR (jI S 47)) := hm.2.1.1.trans R3
  unfold wX7_solve
  refine ⟨shA_29 hs, sX7_countLying hs hm (fun S1 f1 y1 => ?_)⟩
  have f1 : jFr [30, 31, 32] S S1 := f1.mono (by decide)
  unfold wX7_solve_5
  refine jLoop.cnt (gR (jI S 47)) (fun c q => ∃ S', q = (29, 1, 23, nI c, S') ∧ jFr [30, 31, 32] S S' ∧ jI S' 30 = jI S1 30 ∧ ∀ r, r < c → jI S' 31 (59 * 9 + r) = nI (gD (jI S 47) 0 r) ∧ jJ S' 32 (59 * 9 + r) = lN (gW (jI S 47) 0 r)) 0 (by omega) ?_ ⟨S1, rfl, f1, rfl, fun r q => absurd q (Nat.not_lt_zero _)⟩
  rintro c _ hc ⟨S2, rfl, f2, g2, j2⟩
  have hs2 : jSh S2 := f2.sh.mpr hs
  have e47 : jI S2 47 = jI S 47 := f2.I 47 (by decide)
  have p59 : (59 : Int32) * 9 + nI c = nI (59 * 9 + c) := pl_nI 59 c
  unfold bX7_solve_5 wX11_placeOf
  simp only [shA_1, shA_29, shA_30, shZ_30, shA_31, shZ_31, shA_32, shZ_32, shR_1_4, shr_1_4, shR_1_5, shr_1_5, shR_1_6, shr_1_6, shR_1_9, shr_1_9, shR_1_11, shr_1_11, shR_29_0, shr_29_0, shR_29_1, shr_29_1, shR_29_2, shr_29_2, shR_29_3, shr_29_3, shR_29_4, shr_29_4, hs2, f2.I 1 (by decide), e0, g2, p59, nI_1, jN_uI, jN_uJ, jN_uR, jK_uI, jK_uJ, jK_uR, jZ_uI, jZ_uJ, jZ_uR, jR_uI, jR_uJ, jr_uI, jr_uJ, jI_uJ, jI_uR, jJ_uI, jJ_uR, jI_uI_eq, jI_uI_ne, jJ_uJ_eq, jJ_uJ_ne, jSh_uI, jSh_uJ, jA_uI, jA_uJ, jA_uR, jI_uIf_eq, jI_uIf_ne, jJ_uIf, jR_uIf, jr_uIf, jZ_uIf, jSh_uIf, jA_uIf, ne_eq, not_false_eq_true, not_true_eq_false, reduceCtorEq, Nat.reduceEqDiff, forall_eq, true_and, and_true, true_implies, forall_const, implies_true, List.mem_cons, List.not_mem_nil, or_false, false_or, or_self, if_true, if_false, reduceIte, Nat.reduceAdd, Nat.reduceMul, Nat.reduceLT, false_implies, Decidable.not_not, bI_eq0, bI_eq1, upd_at, updL_at, Nat.succ_ne_zero, Int32.reduceToNatClampNeg, eq_self, i01, i10]
  rw [nI_le' (by omega) (by omega)]
  refine ⟨fun q => ?_, fun q => ?_⟩
  · unfold wX7_solve_32
    refine jLoop.cnt 59 (fun j q => ∃ S', q = (29, 1, 23, nI (59 - j) - 1, S') ∧ jFr [30, 31, 32] S S' ∧ jI S' 30 = jI S1 30 ∧ lsOk S' (59 - j)) 0 (by omega) ?_ ⟨S2, rfl, f2, g2, fun n r q1 q2 q3 => ?_⟩
    · rintro j _ hj ⟨S3, rfl, f3, g3, l3⟩
      have hs3 : jSh S3 := f3.sh.mpr hs
      have hm3 : MW S3 := hm.fr f3 (by decide) (by decide)
      have e47 : jI S3 47 = jI S 47 := f3.I 47 (by decide)
      have k3 : knS S3 0 60 := by unfold knS; rw [e47, f3.I 27 (by decide)]; exact hx
      have y3 : ∀ n r, n < 60 → r < gR (jI S3 47) → jI S3 30 (n * 9 + r) = nI (gLs (jI S3 47) n r) := by rw [e47, g3]; exact y1
      unfold bX7_solve_32
      simp only
      rcases Nat.eq_zero_or_pos (59 - j) with z | z
      · rw [z] at l3 ⊢
        refine ⟨fun _ => ⟨shA_29 hs3, ?_⟩, fun q => absurd (show nI 0 - 1 < 0 by decide) q⟩
        refine sX7_chooseStart hs3 hm3 l3 (fun S4 f4 a1 a2 a3 => ?_)
        have hs4 : jSh S4 := f4.sh.mpr hs3
        have hm4 : MW S4 := hm3.fr f4 (by decide) (by decide)
        have e4 : jI S4 47 = jI S3 47 := f4.I 47 (by decide)
        have k4 : knS S4 0 60 := by unfold knS; rw [e4, f4.I 27 (by decide)]; exact k3
        have y4 : ∀ n r, n < 60 → r < gR (jI S4 47) → jI S4 30 (n * 9 + r) = nI (gLs (jI S4 47) n r) := by rw [e4, f4.I 30 (by decide)]; exact y3
        refine ⟨shA_29 hs4, sX7_followLikely hs4 hm4 k4 y4 (l3.fr f4 (by decide)) (by rw [e4]; exact a3) (fun S5 f5 b1 => ?_)⟩
        have hs5 : jSh S5 := f5.sh.mpr hs4
        have hm5 : MW S5 := hm4.fr f5 (by decide) (by decide)
        have e5 : jI S5 47 = jI S4 47 := f5.I 47 (by decide)
        have k5 : knS S5 0 60 := by unfold knS; rw [e5, f5.I 27 (by decide)]; exact k4
        have y5 : ∀ n r, n < 60 → r < gR (jI S5 47) → jI S5 30 (n * 9 + r) = nI (gLs (jI S5 47) n r) := by rw [e5, f5.I 30 (by decide)]; exact y4
        refine ⟨shA_29 hs5, sX7_followFirst hs5 hm5 k5 y5 ((l3.fr f4 (by decide)).fr f5 (by decide)) (by rw [e5]; exact b1 0 (by omega)) (fun S6 w f6 c1 c2 => ?_)⟩
        have eS : jI S5 47 = jI S 47 := e5.trans (e4.trans e47)
        refine h S6 ((((f3.mono (by decide)).tr (f4.mono (by decide))).tr (f5.mono (by decide))).tr (f6.mono (by decide))) ⟨?_, ?_, ?_, w, ?_, c2⟩
        · rw [f6.I 29 (by decide), f5.I 29 (by decide), a1, e47]
        · rw [f6.J 29 (by decide), f5.J 29 (by decide), a2, e47]
        · rw [f6.I 33 (by decide)]; rw [e4, e47] at b1; exact b1
        · rw [eS] at c1; exact c1
      · obtain ⟨n, hn0⟩ : ∃ n, 59 - j = n + 1 := ⟨59 - j - 1, by omega⟩
        have hn1 : 59 - (j + 1) = n := by omega
        rw [hn0] at l3 ⊢
        rw [hn1, nI_m1 (by omega), show n + 1 - 1 = n by omega]
        refine ⟨fun q => absurd q (nI_pos (by omega)), fun _ => ?_⟩
        unfold wX7_solve_36
        refine jLoop.cnt (gR (jI S 47)) (fun d q => ∃ S', q = (29, 1, 23, nI n, nI d, S') ∧ jFr [30, 31, 32] S S' ∧ jI S' 30 = jI S1 30 ∧ lsOk S' (n + 1) ∧ ∀ r, r < d → jI S' 31 (n * 9 + r) = nI (gD (jI S 47) (59 - n) r) ∧ jJ S' 32 (n * 9 + r) = lN (gW (jI S 47) (59 - n) r)) 0 (by omega) ?_ ⟨S3, rfl, f3, g3, l3, fun r q => absurd q (Nat.not_lt_zero _)⟩
        rintro d _ hd ⟨S4, rfl, f4, g4, l4, m4⟩
        have hs4 : jSh S4 := f4.sh.mpr hs
        have hm4 : MW S4 := hm.fr f4 (by decide) (by decide)
        have e4 : jI S4 47 = jI S 47 := f4.I 47 (by decide)
        unfold bX7_solve_36
        simp only [shA_1, shA_23, shA_29, shR_1_4, shr_1_4, shR_1_5, shr_1_5, shR_1_6, shr_1_6, shR_1_9, shr_1_9, shR_1_11, shr_1_11, shR_23_0, shr_23_0, shR_23_1, shr_23_1, shR_23_2, shr_23_2, shR_29_0, shr_29_0, shR_29_1, shr_29_1, shR_29_2, shr_29_2, shR_29_3, shr_29_3, shR_29_4, shr_29_4, hs4, f4.I 1 (by decide), e0, ne_eq, not_false_eq_true, not_true_eq_false, reduceCtorEq, Nat.reduceEqDiff, forall_eq, true_and, and_true, true_implies, forall_const, implies_true, List.mem_cons, List.not_mem_nil, or_false, false_or, or_self, if_true, if_false, reduceIte, Nat.reduceAdd, Nat.reduceMul, Nat.reduceLT, false_implies, Decidable.not_not, bI_eq0, bI_eq1, upd_at, updL_at, Nat.succ_ne_zero, Int32.reduceToNatClampNeg, eq_self, i01, i10]
        rw [nI_le' (by omega) (by omega)]
        refine ⟨fun q => ⟨by omega, S4, by rw [show nI n + -1 = nI n - 1 by lia], f4, g4, fun m r q1 q2 q3 => ?_⟩, fun q => ?_⟩
        · rw [e4] at q3 ⊢
          by_cases e : m = n
          · subst e; exact m4 r (by omega)
          · have := l4 m r (by omega) q2 (by rw [e4]; exact q3); rw [e4] at this; exact this
        · refine sX1_steps hs4 (by omega) (by omega) (by rw [e4, f4.I 27 (by decide)]; exact hx n d (by omega) (by omega) (by omega)) (fun x hx2 => ?_)
          simp only [shA_29, shR_29_0, shr_29_0, shR_29_1, shr_29_1, shR_29_2, shr_29_2, shR_29_3, shr_29_3, shR_29_4, shr_29_4, hs4, ne_eq, not_false_eq_true, not_true_eq_false, reduceCtorEq, Nat.reduceEqDiff, forall_eq, true_and, and_true, true_implies, forall_const, implies_true, List.mem_cons, List.not_mem_nil, or_false, false_or, or_self, if_true, if_false, reduceIte, Nat.reduceAdd, Nat.reduceMul, Nat.reduceLT, false_implies, Decidable.not_not, bI_eq0, bI_eq1, upd_at, updL_at, Nat.succ_ne_zero, Int32.reduceToNatClampNeg, eq_self, i01, i10]
          refine sX7_weigh hs4 hm4 (by rw [e4]; omega) (by omega) hx2 (by rw [e4, g4]; exact y1 n d (by omega) (by omega)) l4 ?_
          simp only [nI_1, ne_eq, not_false_eq_true, not_true_eq_false, reduceCtorEq, Nat.reduceEqDiff, forall_eq, true_and, and_true, true_implies, forall_const, implies_true, List.mem_cons, List.not_mem_nil, or_false, false_or, or_self, if_true, if_false, reduceIte, Nat.reduceAdd, Nat.reduceMul, Nat.reduceLT, false_implies, Decidable.not_not, bI_eq0, bI_eq1, upd_at, updL_at, Nat.succ_ne_zero, Int32.reduceToNatClampNeg, eq_self, i01, i10]
          refine ⟨by omega, _, rfl, (f4.uI (by decide)).uJ (by decide), by simp only [jN_uI, jN_uJ, jN_uR, jK_uI, jK_uJ, jK_uR, jZ_uI, jZ_uJ, jZ_uR, jR_uI, jR_uJ, jr_uI, jr_uJ, jI_uJ, jI_uR, jJ_uI, jJ_uR, jI_uI_eq, jI_uI_ne, jJ_uJ_eq, jJ_uJ_ne, jSh_uI, jSh_uJ, jA_uI, jA_uJ, jA_uR, jI_uIf_eq, jI_uIf_ne, jJ_uIf, jR_uIf, jr_uIf, jZ_uIf, jSh_uIf, jA_uIf, ne_eq, not_false_eq_true, not_true_eq_false, reduceCtorEq, Nat.reduceEqDiff, forall_eq, true_and, and_true, true_implies, forall_const, implies_true, List.mem_cons, List.not_mem_nil, or_false, false_or, or_self, if_true, if_false, reduceIte, Nat.reduceAdd, Nat.reduceMul, Nat.reduceLT, false_implies, Decidable.not_not, bI_eq0, bI_eq1, upd_at, updL_at, Nat.succ_ne_zero, Int32.reduceToNatClampNeg, eq_self, i01, i10]; exact g4, fun m r q1 q2 q3 => ?_, fun r hr => ?_⟩
          · simp only [jN_uI, jN_uJ, jN_uR, jK_uI, jK_uJ, jK_uR, jZ_uI, jZ_uJ, jZ_uR, jR_uI, jR_uJ, jr_uI, jr_uJ, jI_uJ, jI_uR, jJ_uI, jJ_uR, jI_uI_eq, jI_uI_ne, jJ_uJ_eq, jJ_uJ_ne, jSh_uI, jSh_uJ, jA_uI, jA_uJ, jA_uR, jI_uIf_eq, jI_uIf_ne, jJ_uIf, jR_uIf, jr_uIf, jZ_uIf, jSh_uIf, jA_uIf, ne_eq, not_false_eq_true, not_true_eq_false, reduceCtorEq, Nat.reduceEqDiff, forall_eq, true_and, and_true, true_implies, forall_const, implies_true, List.mem_cons, List.not_mem_nil, or_false, false_or, or_self, if_true, if_false, reduceIte, Nat.reduceAdd, Nat.reduceMul, Nat.reduceLT, false_implies, Decidable.not_not, bI_eq0, bI_eq1, upd_at, updL_at, Nat.succ_ne_zero, Int32.reduceToNatClampNeg, eq_self, i01, i10, e4] at q3 ⊢
            rw [if_neg (by omega), if_neg (by omega)]
            have := l4 m r q1 q2 (by rw [e4]; exact q3); rw [e4] at this; exact this
          · simp only [jN_uI, jN_uJ, jN_uR, jK_uI, jK_uJ, jK_uR, jZ_uI, jZ_uJ, jZ_uR, jR_uI, jR_uJ, jr_uI, jr_uJ, jI_uJ, jI_uR, jJ_uI, jJ_uR, jI_uI_eq, jI_uI_ne, jJ_uJ_eq, jJ_uJ_ne, jSh_uI, jSh_uJ, jA_uI, jA_uJ, jA_uR, jI_uIf_eq, jI_uIf_ne, jJ_uIf, jR_uIf, jr_uIf, jZ_uIf, jSh_uIf, jA_uIf, ne_eq, not_false_eq_true, not_true_eq_false, reduceCtorEq, Nat.reduceEqDiff, forall_eq, true_and, and_true, true_implies, forall_const, implies_true, List.mem_cons, List.not_mem_nil, or_false, false_or, or_self, if_true, if_false, reduceIte, Nat.reduceAdd, Nat.reduceMul, Nat.reduceLT, false_implies, Decidable.not_not, bI_eq0, bI_eq1, upd_at, updL_at, Nat.succ_ne_zero, Int32.reduceToNatClampNeg, eq_self, i01, i10, e4]
            by_cases e : r = d
            · subst e; rw [if_pos rfl, if_pos rfl]; exact ⟨rfl, rfl⟩
            · rw [if_neg (by omega), if_neg (by omega)]; exact m4 r (by omega)
    · rw [show n = 59 by omega, e47]
      rw [e47] at q3
      exact j2 r (by omega)
  · rw [nI_tn (by omega), y1 59 c (by omega) (by omega)]
    refine ⟨nI_in2 (by omega) (by omega), nI_in2 (by omega) (by omega), nI_in2 (by omega) (by omega), by omega, _, rfl, (f2.uI (by decide)).uJ (by decide), by simp only [jN_uI, jN_uJ, jN_uR, jK_uI, jK_uJ, jK_uR, jZ_uI, jZ_uJ, jZ_uR, jR_uI, jR_uJ, jr_uI, jr_uJ, jI_uJ, jI_uR, jJ_uI, jJ_uR, jI_uI_eq, jI_uI_ne, jJ_uJ_eq, jJ_uJ_ne, jSh_uI, jSh_uJ, jA_uI, jA_uJ, jA_uR, jI_uIf_eq, jI_uIf_ne, jJ_uIf, jR_uIf, jr_uIf, jZ_uIf, jSh_uIf, jA_uIf, ne_eq, not_false_eq_true, not_true_eq_false, reduceCtorEq, Nat.reduceEqDiff, forall_eq, true_and, and_true, true_implies, forall_const, implies_true, List.mem_cons, List.not_mem_nil, or_false, false_or, or_self, if_true, if_false, reduceIte, Nat.reduceAdd, Nat.reduceMul, Nat.reduceLT, false_implies, Decidable.not_not, bI_eq0, bI_eq1, upd_at, updL_at, Nat.succ_ne_zero, Int32.reduceToNatClampNeg, eq_self, i01, i10]; exact g2, fun r hr => ?_⟩
    simp only [jN_uI, jN_uJ, jN_uR, jK_uI, jK_uJ, jK_uR, jZ_uI, jZ_uJ, jZ_uR, jR_uI, jR_uJ, jr_uI, jr_uJ, jI_uJ, jI_uR, jJ_uI, jJ_uR, jI_uI_eq, jI_uI_ne, jJ_uJ_eq, jJ_uJ_ne, jSh_uI, jSh_uJ, jA_uI, jA_uJ, jA_uR, jI_uIf_eq, jI_uIf_ne, jJ_uIf, jR_uIf, jr_uIf, jZ_uIf, jSh_uIf, jA_uIf, ne_eq, not_false_eq_true, not_true_eq_false, reduceCtorEq, Nat.reduceEqDiff, forall_eq, true_and, and_true, true_implies, forall_const, implies_true, List.mem_cons, List.not_mem_nil, or_false, false_or, or_self, if_true, if_false, reduceIte, Nat.reduceAdd, Nat.reduceMul, Nat.reduceLT, false_implies, Decidable.not_not, bI_eq0, bI_eq1, upd_at, updL_at, Nat.succ_ne_zero, Int32.reduceToNatClampNeg, eq_self, i01, i10]
    by_cases e : r = c
    · subst e; rw [if_pos rfl, if_pos rfl]; exact ⟨rfl, rfl⟩
    · rw [if_neg (by omega), if_neg (by omega)]; exact j2 r (by omega)
