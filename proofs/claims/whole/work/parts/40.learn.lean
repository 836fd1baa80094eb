/-! BOATS: learning -/
def knS (S : JS) (a b : Nat) : Prop := ∀ n r, a ≤ n → n < b → r < 9 → slOk (jI S 47) n r (jI S 27 (n * 9 + r))
def knD (S : JS) (a b : Nat) : Prop := ∀ n r, a ≤ n → n < b → r < gR (jI S 47) → jI S 28 (n * 9 + r) = gTell (jI S 47) 0 (nI r) (nI n) (-1)
theorem max0 {a : Nat} (h : a < 1000000) : (if (0 : Int32) < nI a then nI a else 0) = nI a := by
  split
  · rfl
  · rename_i q; rw [li_0, nI_lt' (by omega) (by omega)] at q; rw [show a = 0 by omega]; rfl
theorem sX1_learnAll {S : JS} {Q : JS → Prop} {a b : Nat} (hs : jSh S) (hm : MW S) (hB : BC S) (ha : a < 60) (hb : b < 60) (h : ∀ S', jFr [24, 25, 26, 27] S S' → BC S' → knS S' a (b + 1) → Q S') : wX1_learnAll 23 1 (nI a) (nI b) S Q := by
  unfold wX1_learnAll
  rw [max0 (by omega)]
  refine nm_e ?_
  unfold wX1_learnAll_4
  refine jLoop.cnt 60 (fun c q => ∃ S', q = (23, 1, nI b, nI c, S') ∧ jFr [24, 25, 26, 27] S S' ∧ BC S' ∧ knS S' a c) a (by omega) ?_ ⟨S, rfl, jFr.refl _ _, hB, fun n r q1 q2 => by omega⟩
  rintro c _ hc ⟨S1, rfl, f1, B1, k1⟩
  unfold bX1_learnAll_4
  simp only
  rw [nI_lt' (by omega) (by omega), li_60, nI_le' (by omega) (by omega)]
  refine ⟨fun q => h S1 f1 B1 (fun n r q1 q2 q3 => k1 n r q1 (by omega) q3), fun q => ⟨fun q2 => by omega, fun q2 => ?_⟩⟩
  unfold wX1_learnAll_12
  refine jLoop.cnt 9 (fun d q => ∃ S', q = (23, 1, nI b, nI c, nI d, S') ∧ jFr [24, 25, 26, 27] S S' ∧ BC S' ∧ knS S' a c ∧ ∀ r, r < d → slOk (jI S 47) c r (jI S' 27 (c * 9 + r))) 0 (by omega) ?_ ⟨S1, rfl, f1, B1, k1, fun r hr => absurd hr (Nat.not_lt_zero _)⟩
  rintro d _ hd ⟨S2, rfl, f2, B2, k2, l2⟩
  have hs2 : jSh S2 := f2.sh.mpr hs
  have hm2 : MW S2 := hm.fr f2 (by decide) (by decide)
  have e47 : jI S2 47 = jI S 47 := f2.I 47 (by decide)
  unfold bX1_learnAll_12
  simp only
  rw [li_9, nI_le' (by omega) (by omega)]
  refine ⟨fun q3 => nm_r (nI_1 c) ⟨by omega, S2, rfl, f2, B2, fun n r q4 q5 q6 => ?_⟩, fun q3 => ⟨shA_23 hs2, sX1_learnFrom hs2 hm2 B2 (by omega) (by omega) (fun S3 f3 B3 o3 s3 => nm_r (nI_1 d) ⟨by omega, S3, rfl, f2.tr f3, B3, ?_, ?_⟩)⟩⟩
  · rw [e47]
    by_cases e : n = c
    · subst e; exact l2 r (by omega)
    · have := k2 n r q4 (by omega) q6; rw [e47] at this; exact this
  · intro n r q4 q5 q6
    have := k2 n r q4 q5 q6
    rw [f3.I 47 (by decide), o3 _ (by rw [ne_eq, pl_inj q6 (by omega)]; omega)]; exact this
  · intro r hr
    rw [e47] at s3
    by_cases e : r = d
    · subst e; exact s3
    · rw [o3 _ (by rw [ne_eq, pl_inj (by omega) (by omega)]; omega)]; exact l2 r (by omega)
theorem sX1_learnDanger {S : JS} {Q : JS → Prop} {r n : Nat} (hs : jSh S) (hm : MW S) (hB : BC S) (hr : r < gR (jI S 47)) (hn : n < 60) (h : ∀ S', jFr [24, 25, 26, 28] S S' → BC S' → (∀ p, p ≠ n * 9 + r → jI S' 28 p = jI S 28 p) → jI S' 28 (n * 9 + r) = gTell (jI S 47) 0 (nI r) (nI n) (-1) → Q S') : wX1_learnDanger 23 1 (nI r) (nI n) S Q := by
  obtain ⟨R1, R2, R3⟩ := hm.1.1
  have fin : ∀ x S', jFr [24, 25, 26] S S' → x = gTell (jI S 47) 0 (nI r) (nI n) (-1) → Q (uI S' 28 (n * 9 + r) x) := by
    intro x S1 f1 hx
    have e27 : jI S1 27 = jI S 27 := f1.I 27 (by decide)
    have e28 : jI S1 28 = jI S 28 := f1.I 28 (by decide)
    have e47 : jI S1 47 = jI S 47 := f1.I 47 (by decide)
    refine h _ ((f1.mono (by decide)).uI (by decide)) ?_ ?_ ?_
    · refine ⟨fun m b m1 b1 => ?_, fun m b m1 b1 => ?_⟩
      · simp only [jN_uI, jN_uJ, jN_uR, jK_uI, jK_uJ, jK_uR, jZ_uI, jZ_uJ, jZ_uR, jR_uI, jR_uJ, jr_uI, jr_uJ, jI_uJ, jI_uR, jJ_uI, jJ_uR, jI_uI_eq, jI_uI_ne, jJ_uJ_eq, jJ_uJ_ne, jSh_uI, jSh_uJ, jA_uI, jA_uJ, jA_uR, jI_uIf_eq, jI_uIf_ne, jJ_uIf, jR_uIf, jr_uIf, jZ_uIf, jSh_uIf, jA_uIf, ne_eq, not_false_eq_true, not_true_eq_false, reduceCtorEq, Nat.reduceEqDiff, forall_eq, true_and, and_true, true_implies, forall_const, implies_true, List.mem_cons, List.not_mem_nil, or_false, false_or, or_self, if_true, if_false, reduceIte, Nat.reduceAdd, Nat.reduceMul, Nat.reduceLT, false_implies, Decidable.not_not, bI_eq0, bI_eq1, upd_at, updL_at, Nat.succ_ne_zero, Int32.reduceToNatClampNeg, e27, e47]
        exact hB.1 m b m1 b1
      · simp only [jN_uI, jN_uJ, jN_uR, jK_uI, jK_uJ, jK_uR, jZ_uI, jZ_uJ, jZ_uR, jR_uI, jR_uJ, jr_uI, jr_uJ, jI_uJ, jI_uR, jJ_uI, jJ_uR, jI_uI_eq, jI_uI_ne, jJ_uJ_eq, jJ_uJ_ne, jSh_uI, jSh_uJ, jA_uI, jA_uJ, jA_uR, jI_uIf_eq, jI_uIf_ne, jJ_uIf, jR_uIf, jr_uIf, jZ_uIf, jSh_uIf, jA_uIf, ne_eq, not_false_eq_true, not_true_eq_false, reduceCtorEq, Nat.reduceEqDiff, forall_eq, true_and, and_true, true_implies, forall_const, implies_true, List.mem_cons, List.not_mem_nil, or_false, false_or, or_self, if_true, if_false, reduceIte, Nat.reduceAdd, Nat.reduceMul, Nat.reduceLT, false_implies, Decidable.not_not, bI_eq0, bI_eq1, upd_at, updL_at, Nat.succ_ne_zero, Int32.reduceToNatClampNeg, pl_inj b1 (show r < 9 by omega), e28, e47]
        split
        · rename_i q; obtain ⟨rfl, rfl⟩ := q; exact Or.inr hx
        · exact hB.2 m b m1 b1
    · intro p hp; simp only [jN_uI, jN_uJ, jN_uR, jK_uI, jK_uJ, jK_uR, jZ_uI, jZ_uJ, jZ_uR, jR_uI, jR_uJ, jr_uI, jr_uJ, jI_uJ, jI_uR, jJ_uI, jJ_uR, jI_uI_eq, jI_uI_ne, jJ_uJ_eq, jJ_uJ_ne, jSh_uI, jSh_uJ, jA_uI, jA_uJ, jA_uR, jI_uIf_eq, jI_uIf_ne, jJ_uIf, jR_uIf, jr_uIf, jZ_uIf, jSh_uIf, jA_uIf, ne_eq, not_false_eq_true, not_true_eq_false, reduceCtorEq, Nat.reduceEqDiff, forall_eq, true_and, and_true, true_implies, forall_const, implies_true, List.mem_cons, List.not_mem_nil, or_false, false_or, or_self, if_true, if_false, reduceIte, Nat.reduceAdd, Nat.reduceMul, Nat.reduceLT, false_implies, Decidable.not_not, bI_eq0, bI_eq1, upd_at, updL_at, Nat.succ_ne_zero, Int32.reduceToNatClampNeg]; rw [if_neg hp, e28]
    · simp only [jN_uI, jN_uJ, jN_uR, jK_uI, jK_uJ, jK_uR, jZ_uI, jZ_uJ, jZ_uR, jR_uI, jR_uJ, jr_uI, jr_uJ, jI_uJ, jI_uR, jJ_uI, jJ_uR, jI_uI_eq, jI_uI_ne, jJ_uJ_eq, jJ_uJ_ne, jSh_uI, jSh_uJ, jA_uI, jA_uJ, jA_uR, jI_uIf_eq, jI_uIf_ne, jJ_uIf, jR_uIf, jr_uIf, jZ_uIf, jSh_uIf, jA_uIf, ne_eq, not_false_eq_true, not_true_eq_false, reduceCtorEq, Nat.reduceEqDiff, forall_eq, true_and, and_true, true_implies, forall_const, implies_true, List.mem_cons, List.not_mem_nil, or_false, false_or, or_self, if_true, if_false, reduceIte, Nat.reduceAdd, Nat.reduceMul, Nat.reduceLT, false_implies, Decidable.not_not, bI_eq0, bI_eq1, upd_at, updL_at, Nat.succ_ne_zero, Int32.reduceToNatClampNeg]; exact hx
  unfold wX1_learnDanger wX11_placeOf
  simp only [shA_1, shA_23, shA_28, shZ_28, shR_1_4, shr_1_4, shR_1_5, shr_1_5, shR_1_6, shr_1_6, shR_1_9, shr_1_9, shR_1_11, shr_1_11, shR_23_0, shr_23_0, shR_23_1, shr_23_1, shR_23_2, shr_23_2, hs, pl_nI, ne_eq, not_false_eq_true, not_true_eq_false, reduceCtorEq, Nat.reduceEqDiff, forall_eq, true_and, and_true, true_implies, forall_const, implies_true, List.mem_cons, List.not_mem_nil, or_false, false_or, or_self, if_true, if_false, reduceIte, Nat.reduceAdd, Nat.reduceMul, Nat.reduceLT, false_implies, Decidable.not_not, bI_eq0, bI_eq1, upd_at, updL_at, Nat.succ_ne_zero, Int32.reduceToNatClampNeg]
  rw [nI_tn (by omega)]
  refine ⟨nI_in2 (by omega) (by omega), fun q => ?_, fun q => ⟨shA_24 hs, ?_⟩⟩
  · refine h S (jFr.refl _ _) hB (fun _ _ => rfl) ?_
    rcases hB.2 n r hn (by omega) with z | z
    · exact absurd z q
    · exact z
  · refine sX0_aboutRock hs hm hn (fun S1 f1 env => ?_)
    have f1 : jFr [24, 25, 26] S S1 := f1.mono (by decide)
    have hs1 : jSh S1 := f1.sh.mpr hs
    have hm1 : MW S1 := hm.fr f1 (by decide) (by decide)
    have e47 : jI S1 47 = jI S 47 := f1.I 47 (by decide)
    simp only [shA_1, shA_23, shA_28, shZ_28, shR_1_4, shr_1_4, shR_1_5, shr_1_5, shR_1_6, shr_1_6, shR_1_9, shr_1_9, shR_1_11, shr_1_11, shR_23_0, shr_23_0, shR_23_1, shr_23_1, shR_23_2, shr_23_2, hs1, ne_eq, not_false_eq_true, not_true_eq_false, reduceCtorEq, Nat.reduceEqDiff, forall_eq, true_and, and_true, true_implies, forall_const, implies_true, List.mem_cons, List.not_mem_nil, or_false, false_or, or_self, if_true, if_false, reduceIte, Nat.reduceAdd, Nat.reduceMul, Nat.reduceLT, false_implies, Decidable.not_not, bI_eq0, bI_eq1, upd_at, updL_at, Nat.succ_ne_zero, Int32.reduceToNatClampNeg]
    refine sX9_ruling hs1 hm1 (fun hl => ?_) (fun j hl k j1 j2 j3 j4 j5 => ?_)
    · refine ⟨fun _ => ⟨shA_24 hs1, ?_⟩, fun r z => by (cases z)⟩
      unfold wX0_told
      refine ⟨fun _ => ?_, fun _ z => by (cases z)⟩
      simp only [shA_28, shZ_28, hs1, ne_eq, not_false_eq_true, not_true_eq_false, reduceCtorEq, Nat.reduceEqDiff, forall_eq, true_and, and_true, true_implies, forall_const, implies_true, List.mem_cons, List.not_mem_nil, or_false, false_or, or_self, if_true, if_false, reduceIte, Nat.reduceAdd, Nat.reduceMul, Nat.reduceLT, false_implies, Decidable.not_not, bI_eq0, bI_eq1, upd_at, updL_at, Nat.succ_ne_zero, Int32.reduceToNatClampNeg]
      refine ⟨nI_in2 (by omega) (by omega), fin _ _ f1 ?_⟩
      rw [e47] at hl
      rw [gTell_none hl]; rfl
    · refine ⟨fun z => by (cases z), fun r2 z => ?_⟩
      cases z
      refine ⟨shA_24 hs1, ?_⟩
      rw [e47] at j2 j3 j5
      refine sX0_told (m := 0) hs1 j3 (by omega) j5 j4 env (gEnv_b hm.1 hr hn (Or.inl rfl)) (fun S2 f2 => ?_)
      have f3 := f1.tr (f2.mono (H' := [24, 25, 26]) (by decide))
      simp only [shA_28, shZ_28, f3.sh.mpr hs, ne_eq, not_false_eq_true, not_true_eq_false, reduceCtorEq, Nat.reduceEqDiff, forall_eq, true_and, and_true, true_implies, forall_const, implies_true, List.mem_cons, List.not_mem_nil, or_false, false_or, or_self, if_true, if_false, reduceIte, Nat.reduceAdd, Nat.reduceMul, Nat.reduceLT, false_implies, Decidable.not_not, bI_eq0, bI_eq1, upd_at, updL_at, Nat.succ_ne_zero, Int32.reduceToNatClampNeg]
      refine ⟨nI_in2 (by omega) (by omega), fin _ _ f3 ?_⟩
      rw [gTell_some j2 j1 j4 j5]; rfl
theorem sX1_learnDangers {S : JS} {Q : JS → Prop} {a b : Nat} (hs : jSh S) (hm : MW S) (hB : BC S) (ha : a < 60) (hb : b < 60) (h : ∀ S', jFr [24, 25, 26, 28] S S' → BC S' → knD S' a (b + 1) → Q S') : wX1_learnDangers 23 1 (nI a) (nI b) S Q := by
  obtain ⟨R1, R2, R3⟩ := hm.1.1
  have e0 : jI S 1 0 = nI (gR (jI S 47)) := hm.2.1.1.trans R3
  unfold wX1_learnDangers
  rw [max0 (by omega)]
  refine nm_e ?_
  unfold wX1_learnDangers_4
  refine jLoop.cnt 60 (fun c q => ∃ S', q = (23, 1, nI b, nI c, S') ∧ jFr [24, 25, 26, 28] S S' ∧ BC S' ∧ knD S' a c) a (by omega) ?_ ⟨S, rfl, jFr.refl _ _, hB, fun n r q1 q2 => by omega⟩
  rintro c _ hc ⟨S1, rfl, f1, B1, k1⟩
  unfold bX1_learnDangers_4
  simp only
  rw [nI_lt' (by omega) (by omega), li_60, nI_le' (by omega) (by omega)]
  refine ⟨fun q => h S1 f1 B1 (fun n r q1 q2 q3 => k1 n r q1 (by omega) q3), fun q => ⟨fun q2 => by omega, fun q2 => ?_⟩⟩
  unfold wX1_learnDangers_12
  refine jLoop.cnt (gR (jI S 47)) (fun d q => ∃ S', q = (23, 1, nI b, nI c, nI d, S') ∧ jFr [24, 25, 26, 28] S S' ∧ BC S' ∧ knD S' a c ∧ ∀ r, r < d → jI S' 28 (c * 9 + r) = gTell (jI S 47) 0 (nI r) (nI c) (-1)) 0 (by omega) ?_ ⟨S1, rfl, f1, B1, k1, fun r hr => absurd hr (Nat.not_lt_zero _)⟩
  rintro d _ hd ⟨S2, rfl, f2, B2, k2, l2⟩
  have hs2 : jSh S2 := f2.sh.mpr hs
  have hm2 : MW S2 := hm.fr f2 (by decide) (by decide)
  have e47 : jI S2 47 = jI S 47 := f2.I 47 (by decide)
  unfold bX1_learnDangers_12
  simp only [f2.I 1 (by decide), e0, shA_1 hs2, nI_1, ne_eq, not_false_eq_true, not_true_eq_false, reduceCtorEq, Nat.reduceEqDiff, forall_eq, true_and, and_true, true_implies, forall_const, implies_true, List.mem_cons, List.not_mem_nil, or_false, false_or, or_self, if_true, if_false, reduceIte, Nat.reduceAdd, Nat.reduceMul, Nat.reduceLT, false_implies, Decidable.not_not, bI_eq0, bI_eq1, upd_at, updL_at, Nat.succ_ne_zero, Int32.reduceToNatClampNeg]
  rw [nI_le' (by omega) (by omega)]
  refine ⟨fun q3 => ⟨by omega, S2, rfl, f2, B2, fun n r q4 q5 q6 => ?_⟩, fun q3 => ⟨shA_23 hs2, sX1_learnDanger hs2 hm2 B2 (by rw [e47]; omega) (by omega) (fun S3 f3 B3 o3 s3 => ⟨by omega, S3, rfl, f2.tr f3, B3, ?_, ?_⟩)⟩⟩
  · rw [e47] at q6 ⊢
    by_cases e : n = c
    · subst e; exact l2 r (by omega)
    · have := k2 n r q4 (by omega) (by rw [e47]; exact q6); rw [e47] at this; exact this
  · intro n r q4 q5 q6
    rw [f3.I 47 (by decide)] at q6 ⊢
    have := k2 n r q4 q5 q6
    rw [e47] at q6
    rw [o3 _ (by rw [ne_eq, pl_inj (by omega) (by omega)]; omega)]; exact this
  · intro r hr
    rw [e47] at s3
    by_cases e : r = d
    · subst e; exact s3
    · rw [o3 _ (by rw [ne_eq, pl_inj (by omega) (by omega)]; omega)]; exact l2 r (by omega)
/-- what is read off -/
theorem sX1_sails {S : JS} {Q : Int32 → JS → Prop} {a n : Nat} (hs : jSh S) (ha : a < 9) (hn : n < 60) (h : Q (jI S 27 (n * 9 + a)) S) : wX1_sails 23 (nI a) (nI n) S Q := by
  unfold wX1_sails wX11_placeOf
  simp only [shA_23, shA_27, shZ_27, shR_23_0, shr_23_0, shR_23_1, shr_23_1, shR_23_2, shr_23_2, hs, pl_nI, ne_eq, not_false_eq_true, not_true_eq_false, reduceCtorEq, Nat.reduceEqDiff, forall_eq, true_and, and_true, true_implies, forall_const, implies_true, List.mem_cons, List.not_mem_nil, or_false, false_or, or_self, if_true, if_false, reduceIte, Nat.reduceAdd, Nat.reduceMul, Nat.reduceLT, false_implies, Decidable.not_not, bI_eq0, bI_eq1, upd_at, updL_at, Nat.succ_ne_zero, Int32.reduceToNatClampNeg]
  rw [nI_tn (by omega)]
  exact ⟨nI_in2 (by omega) (by omega), h⟩
theorem sX1_danger {S : JS} {Q : Int32 → JS → Prop} {a n : Nat} (hs : jSh S) (ha : a < 9) (hn : n < 60) (h : Q (jI S 28 (n * 9 + a)) S) : wX1_danger 23 (nI a) (nI n) S Q := by
  unfold wX1_danger wX11_placeOf
  simp only [shA_23, shA_28, shZ_28, shR_23_0, shr_23_0, shR_23_1, shr_23_1, shR_23_2, shr_23_2, hs, pl_nI, ne_eq, not_false_eq_true, not_true_eq_false, reduceCtorEq, Nat.reduceEqDiff, forall_eq, true_and, and_true, true_implies, forall_const, implies_true, List.mem_cons, List.not_mem_nil, or_false, false_or, or_self, if_true, if_false, reduceIte, Nat.reduceAdd, Nat.reduceMul, Nat.reduceLT, false_implies, Decidable.not_not, bI_eq0, bI_eq1, upd_at, updL_at, Nat.succ_ne_zero, Int32.reduceToNatClampNeg]
  rw [nI_tn (by omega)]
  exact ⟨nI_in2 (by omega) (by omega), h⟩
def stOk (row : Nat → Int32) (n a : Nat) (x : Int32) : Prop := ∀ i, i < 32 → (bt x i = true ↔ gSt row n a i)
theorem slOk.st {row : Nat → Int32} {n a : Nat} {x : Int32} (h : slOk row n a x) (ha : a < 32) : stOk row n a (x ||| ((1 : Int32) <<< (nI a &&& 31))) := by
  intro i hi
  rw [b_set ha hi, Bool.or_eq_true, h i hi, decide_eq_true_iff]
  unfold gSt
  constructor
  · rintro (z | z)
    · exact Or.inr z
    · exact Or.inl z
  · rintro (z | z)
    · exact Or.inr z
    · exact Or.inl z
theorem sX1_steps {S : JS} {Q : Int32 → JS → Prop} {a n : Nat} (hs : jSh S) (ha : a < 9) (hn : n < 60) (hk : slOk (jI S 47) n a (jI S 27 (n * 9 + a))) (h : ∀ x, stOk (jI S 47) n a x → Q x S) : wX1_steps 23 (nI a) (nI n) S Q := by
  unfold wX1_steps wX11_placeOf
  simp only [shA_23, shA_27, shZ_27, shR_23_0, shr_23_0, shR_23_1, shr_23_1, shR_23_2, shr_23_2, hs, pl_nI, ne_eq, not_false_eq_true, not_true_eq_false, reduceCtorEq, Nat.reduceEqDiff, forall_eq, true_and, and_true, true_implies, forall_const, implies_true, List.mem_cons, List.not_mem_nil, or_false, false_or, or_self, if_true, if_false, reduceIte, Nat.reduceAdd, Nat.reduceMul, Nat.reduceLT, false_implies, Decidable.not_not, bI_eq0, bI_eq1, upd_at, updL_at, Nat.succ_ne_zero, Int32.reduceToNatClampNeg]
  rw [nI_tn (by omega)]
  exact ⟨nI_in2 (by omega) (by omega), h _ (hk.st (by omega))⟩
theorem sX11_hasBit {S : JS} {Q : Int32 → JS → Prop} {x : Int32} {k : Nat} (hk : k < 32) (h1 : bt x k = true → Q 1 S) (h0 : ¬ bt x k = true → Q 0 S) : wX11_hasBit x (nI k) S Q := by
  unfold wX11_hasBit
  rw [hb_iff hk]
  exact ⟨h0, h1⟩
theorem sX1_willFor {S : JS} {Q : Int32 → JS → Prop} {a b n : Nat} (hs : jSh S) (hm : MW S) (ha : a < gR (jI S 47)) (hb : b < gR (jI S 47)) (hn : n < 60) (h : ∀ S', jFr [24, 25, 26] S S' → Q (gTell (jI S 47) 1 (nI a) (nI n) (nI b)) S') : wX1_willFor 23 1 (nI a) (nI b) (nI n) S Q := by
  unfold wX1_willFor
  simp only [shA_23, shA_24, shR_23_0, shr_23_0, shR_23_1, shr_23_1, shR_23_2, shr_23_2, shR_24_0, shr_24_0, shR_24_1, shr_24_1, hs, ne_eq, not_false_eq_true, not_true_eq_false, reduceCtorEq, Nat.reduceEqDiff, forall_eq, true_and, and_true, true_implies, forall_const, implies_true, List.mem_cons, List.not_mem_nil, or_false, false_or, or_self, if_true, if_false, reduceIte, Nat.reduceAdd, Nat.reduceMul, Nat.reduceLT, false_implies, Decidable.not_not, bI_eq0, bI_eq1, upd_at, updL_at, Nat.succ_ne_zero, Int32.reduceToNatClampNeg]
  refine sX0_aboutBoat hs hm ha hb hn (fun S1 f1 env => ?_)
  have f1 : jFr [24, 25, 26] S S1 := f1.mono (by decide)
  have hs1 : jSh S1 := f1.sh.mpr hs
  have hm1 : MW S1 := hm.fr f1 (by decide) (by decide)
  have e47 : jI S1 47 = jI S 47 := f1.I 47 (by decide)
  simp only [shA_1, shA_23, shA_24, shR_1_4, shr_1_4, shR_1_5, shr_1_5, shR_1_6, shr_1_6, shR_1_9, shr_1_9, shR_1_11, shr_1_11, shR_23_0, shr_23_0, shR_23_1, shr_23_1, shR_23_2, shr_23_2, shR_24_0, shr_24_0, shR_24_1, shr_24_1, hs1, ne_eq, not_false_eq_true, not_true_eq_false, reduceCtorEq, Nat.reduceEqDiff, forall_eq, true_and, and_true, true_implies, forall_const, implies_true, List.mem_cons, List.not_mem_nil, or_false, false_or, or_self, if_true, if_false, reduceIte, Nat.reduceAdd, Nat.reduceMul, Nat.reduceLT, false_implies, Decidable.not_not, bI_eq0, bI_eq1, upd_at, updL_at, Nat.succ_ne_zero, Int32.reduceToNatClampNeg]
  refine sX9_ruling hs1 hm1 (fun hl => ?_) (fun j hl k j1 j2 j3 j4 j5 => ?_)
  · refine ⟨fun _ => ⟨shA_24 hs1, ?_⟩, fun r z => by (cases z)⟩
    unfold wX0_told
    refine ⟨fun _ => ?_, fun _ z => by (cases z)⟩
    rw [e47] at hl
    have := h S1 f1
    rw [gTell_none hl] at this; exact this
  · refine ⟨fun z => by (cases z), fun r2 z => ?_⟩
    cases z
    refine ⟨shA_24 hs1, ?_⟩
    rw [e47] at j2 j3 j5
    refine sX0_told (m := 1) hs1 j3 (by omega) j5 j4 env (gEnv_b hm.1 ha hn (Or.inr ⟨b, hb, rfl⟩)) (fun S2 f2 => ?_)
    have := h S2 (f1.tr (f2.mono (H' := [24, 25, 26]) (by decide)))
    rw [gTell_some j2 j1 j4 j5] at this; exact this
