/-! QUERIES OF SIGHTINGS -/
def Mdl (W : JS → (Int32 → JS → Prop) → Prop) (S : JS) (r : Int32) (S1 : JS) : Prop := jSh S1 ∧ ∀ Q', (∀ S2, Inv S2 → jN S2 ≤ jN S + 12 → Q' r S2) → W S1 Q'
def MdlL (W : JS → (Int64 → JS → Prop) → Prop) (S : JS) (r : Int64) (S1 : JS) : Prop := jSh S1 ∧ ∀ Q', (∀ S2, Inv S2 → jN S2 ≤ jN S + 12 → Q' r S2) → W S1 Q'
theorem sX11_solve {S : JS} {Q : JS → Prop} (hI : Inv S) (hq : ∀ S1, Inv S1 → jI S1 47 = jI S 47 → jN S1 = jN S → SvOk (jI S 47) (jI S1 29 5) (jJ S1 29 6) (jI S1 33) (jI S1 34) → Q S1) : wX11_solveSightings 0 S Q := by
  have hs := hI.1
  have hm := hI.2.1
  have hB := hI.2.2.1
  have hV := hI.2.2.2.1
  unfold wX11_solveSightings
  simp only [shA_0, shA_1, shA_23, shA_29, shR_0_0, shr_0_0, shR_0_1, shr_0_1, shR_0_2, shr_0_2, shR_0_3, shr_0_3, shR_0_4, shr_0_4, shR_0_5, shr_0_5, shR_0_6, shr_0_6, shR_0_7, shr_0_7, shR_0_8, shr_0_8, shR_0_9, shr_0_9, shR_1_4, shr_1_4, shR_1_5, shr_1_5, shR_1_6, shr_1_6, shR_1_9, shr_1_9, shR_1_11, shr_1_11, shR_23_0, shr_23_0, shR_23_1, shr_23_1, shR_23_2, shr_23_2, shR_29_0, shr_29_0, shR_29_1, shr_29_1, shR_29_2, shr_29_2, shR_29_3, shr_29_3, shR_29_4, shr_29_4, hs, ne_eq, not_false_eq_true, not_true_eq_false, reduceCtorEq, Nat.reduceEqDiff, forall_eq, true_and, and_true, true_implies, forall_const, implies_true, List.mem_cons, List.not_mem_nil, or_false, false_or, or_self, if_true, if_false, reduceIte, Nat.reduceAdd, Nat.reduceMul, Nat.reduceLT, false_implies, Decidable.not_not, bI_eq0, bI_eq1, upd_at, updL_at, Nat.succ_ne_zero, Int32.reduceToNatClampNeg, eq_self, i01, i10]
  refine ⟨fun z => ?_, fun z => ?_⟩
  · rcases hV.1 with e | e
    · exact absurd e z
    · exact hq S hI rfl rfl (hV.2 e)
  · refine sX1_learnAll (a := 0) (b := 59) hs hm hB (by omega) (by omega) (fun S1 f1 B1 k1 => ?_)
    have hs1 := f1.sh.mpr hs
    have hm1 : MW S1 := hm.fr f1 (by decide) (by decide)
    have e1 : jI S1 47 = jI S 47 := f1.I 47 (by decide)
    simp only [shA_0, shA_1, shA_23, shA_29, shR_0_0, shr_0_0, shR_0_1, shr_0_1, shR_0_2, shr_0_2, shR_0_3, shr_0_3, shR_0_4, shr_0_4, shR_0_5, shr_0_5, shR_0_6, shr_0_6, shR_0_7, shr_0_7, shR_0_8, shr_0_8, shR_0_9, shr_0_9, shR_1_4, shr_1_4, shR_1_5, shr_1_5, shR_1_6, shr_1_6, shR_1_9, shr_1_9, shR_1_11, shr_1_11, shR_23_0, shr_23_0, shR_23_1, shr_23_1, shR_23_2, shr_23_2, shR_29_0, shr_29_0, shR_29_1, shr_29_1, shR_29_2, shr_29_2, shR_29_3, shr_29_3, shR_29_4, shr_29_4, hs1, ne_eq, not_false_eq_true, not_true_eq_false, reduceCtorEq, Nat.reduceEqDiff, forall_eq, true_and, and_true, true_implies, forall_const, implies_true, List.mem_cons, List.not_mem_nil, or_false, false_or, or_self, if_true, if_false, reduceIte, Nat.reduceAdd, Nat.reduceMul, Nat.reduceLT, false_implies, Decidable.not_not, bI_eq0, bI_eq1, upd_at, updL_at, Nat.succ_ne_zero, Int32.reduceToNatClampNeg, eq_self, i01, i10]
    refine sX7_solve hs1 hm1 k1 (fun S2 f2 v2 => ?_)
    have e2 : jI S2 47 = jI S1 47 := f2.I 47 (by decide)
    simp only [shA_0 (f2.sh.mpr hs1), ne_eq, not_false_eq_true, not_true_eq_false, reduceCtorEq, Nat.reduceEqDiff, forall_eq, true_and, and_true, true_implies, forall_const, implies_true, List.mem_cons, List.not_mem_nil, or_false, false_or, or_self, if_true, if_false, reduceIte, Nat.reduceAdd, Nat.reduceMul, Nat.reduceLT, false_implies, Decidable.not_not, bI_eq0, bI_eq1, upd_at, updL_at, Nat.succ_ne_zero, Int32.reduceToNatClampNeg, eq_self, i01, i10]
    have hv : SvOk (jI S 47) (jI (uI S2 0 13 1) 29 5) (jJ (uI S2 0 13 1) 29 6) (jI (uI S2 0 13 1) 33) (jI (uI S2 0 13 1) 34) := by
      rw [e1] at v2; simp only [jN_uI, jN_uJ, jN_uR, jK_uI, jK_uJ, jK_uR, jZ_uI, jZ_uJ, jZ_uR, jR_uI, jR_uJ, jr_uI, jr_uJ, jI_uJ, jI_uR, jJ_uI, jJ_uR, jI_uI_eq, jI_uI_ne, jJ_uJ_eq, jJ_uJ_ne, jSh_uI, jSh_uJ, jA_uI, jA_uJ, jA_uR, jI_uIf_eq, jI_uIf_ne, jJ_uIf, jR_uIf, jr_uIf, jZ_uIf, jSh_uIf, jA_uIf, ne_eq, not_false_eq_true, not_true_eq_false, reduceCtorEq, Nat.reduceEqDiff, forall_eq, true_and, and_true, true_implies, forall_const, implies_true, List.mem_cons, List.not_mem_nil, or_false, false_or, or_self, if_true, if_false, reduceIte, Nat.reduceAdd, Nat.reduceMul, Nat.reduceLT, false_implies, Decidable.not_not, bI_eq0, bI_eq1, upd_at, updL_at, Nat.succ_ne_zero, Int32.reduceToNatClampNeg, eq_self, i01, i10]; exact v2
    refine hq _ ?_ ?_ ?_ hv
    · refine hI.c (((f1.mono (by decide)).tr (f2.mono (by decide))).uI (by decide)) (((jFk.of f1 (by decide)).tr (jFk.of f2 (by decide))).sI (by decide)) ?_ ?_
      · refine BC.fr (H := [0]) (S := S2) ((jFr.refl _ _).uI (by decide)) (by decide) (B1.fr f2 (by decide))
      · refine ⟨Or.inr (by simp only [jN_uI, jN_uJ, jN_uR, jK_uI, jK_uJ, jK_uR, jZ_uI, jZ_uJ, jZ_uR, jR_uI, jR_uJ, jr_uI, jr_uJ, jI_uJ, jI_uR, jJ_uI, jJ_uR, jI_uI_eq, jI_uI_ne, jJ_uJ_eq, jJ_uJ_ne, jSh_uI, jSh_uJ, jA_uI, jA_uJ, jA_uR, jI_uIf_eq, jI_uIf_ne, jJ_uIf, jR_uIf, jr_uIf, jZ_uIf, jSh_uIf, jA_uIf, ne_eq, not_false_eq_true, not_true_eq_false, reduceCtorEq, Nat.reduceEqDiff, forall_eq, true_and, and_true, true_implies, forall_const, implies_true, List.mem_cons, List.not_mem_nil, or_false, false_or, or_self, if_true, if_false, reduceIte, Nat.reduceAdd, Nat.reduceMul, Nat.reduceLT, false_implies, Decidable.not_not, bI_eq0, bI_eq1, upd_at, updL_at, Nat.succ_ne_zero, Int32.reduceToNatClampNeg, eq_self, i01, i10]), fun _ => ?_⟩
        have : jI (uI S2 0 13 1) 47 = jI S 47 := by simp only [jN_uI, jN_uJ, jN_uR, jK_uI, jK_uJ, jK_uR, jZ_uI, jZ_uJ, jZ_uR, jR_uI, jR_uJ, jr_uI, jr_uJ, jI_uJ, jI_uR, jJ_uI, jJ_uR, jI_uI_eq, jI_uI_ne, jJ_uJ_eq, jJ_uJ_ne, jSh_uI, jSh_uJ, jA_uI, jA_uJ, jA_uR, jI_uIf_eq, jI_uIf_ne, jJ_uIf, jR_uIf, jr_uIf, jZ_uIf, jSh_uIf, jA_uIf, ne_eq, not_false_eq_true, not_true_eq_false, reduceCtorEq, Nat.reduceEqDiff, forall_eq, true_and, and_true, true_implies, forall_const, implies_true, List.mem_cons, List.not_mem_nil, or_false, false_or, or_self, if_true, if_false, reduceIte, Nat.reduceAdd, Nat.reduceMul, Nat.reduceLT, false_implies, Decidable.not_not, bI_eq0, bI_eq1, upd_at, updL_at, Nat.succ_ne_zero, Int32.reduceToNatClampNeg, eq_self, i01, i10]; rw [e2, e1]
        rw [this]; exact hv
    · simp only [jN_uI, jN_uJ, jN_uR, jK_uI, jK_uJ, jK_uR, jZ_uI, jZ_uJ, jZ_uR, jR_uI, jR_uJ, jr_uI, jr_uJ, jI_uJ, jI_uR, jJ_uI, jJ_uR, jI_uI_eq, jI_uI_ne, jJ_uJ_eq, jJ_uJ_ne, jSh_uI, jSh_uJ, jA_uI, jA_uJ, jA_uR, jI_uIf_eq, jI_uIf_ne, jJ_uIf, jR_uIf, jr_uIf, jZ_uIf, jSh_uIf, jA_uIf, ne_eq, not_false_eq_true, not_true_eq_false, reduceCtorEq, Nat.reduceEqDiff, forall_eq, true_and, and_true, true_implies, forall_const, implies_true, List.mem_cons, List.not_mem_nil, or_false, false_or, or_self, if_true, if_false, reduceIte, Nat.reduceAdd, Nat.reduceMul, Nat.reduceLT, false_implies, Decidable.not_not, bI_eq0, bI_eq1, upd_at, updL_at, Nat.succ_ne_zero, Int32.reduceToNatClampNeg, eq_self, i01, i10]; rw [e2, e1]
    · show jN S2 = jN S; rw [f2.N, f1.N]
/-- the model's bits -/
def LkP (row : Nat → Int32) (n l : Nat) (r : Int32) : Prop := ∀ i, i < 32 → (bt r i = true ↔ i < gR row ∧ gTl row n i + gD row (59 - n) i = l + gLs row n i)
theorem gL_D {row : Nat → Int32} {n r : Nat} (hn : n < 60) : gLs row n r ≤ gD row (59 - n) r := by
  rcases Nat.lt_or_ge n 59 with l | l
  · obtain ⟨k, e1, e3⟩ : ∃ k, 59 - n = k + 1 ∧ 58 - k = n := ⟨58 - n, by omega, by omega⟩
    rw [e1, gD, e3]; omega
  · rw [show n = 59 by omega]; exact Nat.le_refl _
theorem SvOk.lk {row : Nat → Int32} {fw : Int32} {nu : Int64} {lk fi : Nat → Int32} (hr : RowOk row) (h : SvOk row fw nu lk fi) {n : Nat} (hn : n < 60) : LkP row n (gF row) (lk n) := by
  intro i hi
  rw [h.2.2.1 n hn i hi]
  constructor
  · intro z
    have := gFo_lt z
    exact ⟨this, (gFo_iff hr n i (by omega) this).mp z⟩
  · intro z
    exact (gFo_iff hr n i (by omega) z.1).mpr z.2
theorem sX12_fewest {S : JS} {Q : Int32 → JS → Prop} (hs : jSh S) (hm : MW S) (ho : onOk S 0) (h : Q (nI (gF (jI S 47))) S) : wX12_fewest 45 S Q := by
  obtain ⟨R1, R2, R3⟩ := hm.1.1
  unfold wX12_fewest wX12_fewest_4
  refine jLoop.cnt (gR (jI S 47)) (fun c q => q = (45, nI (mn (fun _ => True) (gD (jI S 47) 59) c), nI c, S)) 0 (by omega) ?_ rfl
  rintro c _ hc rfl
  have mt := mn_top (fun _ => True) (gD (jI S 47) 59) c
  unfold bX12_fewest_4 wX12_fewest_20
  refine ⟨shA_45 hs, rk_of hs hm (jFr.refl [] _) (by decide) ?_⟩
  rw [nI_le' (by omega) (by omega)]
  refine ⟨fun z => ?_, fun z => ?_⟩
  · rw [show c = gR (jI S 47) by omega]; exact h
  · have ht : jI S 62 c = nI (gD (jI S 47) 59 c) := by
      have := (ho 0 c (by omega) (by omega) (by omega)).1
      rw [Nat.mul_zero, Nat.zero_add] at this; exact this
    have h16 := gD_16 hm.1 (k := 59) (by omega) (show c < gR (jI S 47) by omega)
    simp only [shA_45, shA_62, shZ_62, shR_45_2, shr_45_2, shR_45_3, shr_45_3, shR_45_4, shr_45_4, shR_45_5, shr_45_5, shR_45_7, shr_45_7, shR_45_16, shr_45_16, shR_45_18, shr_45_18, shR_45_19, shr_45_19, shR_45_21, shr_45_21, shR_45_22, shr_45_22, shR_45_25, shr_45_25, shR_45_26, shr_45_26, shR_45_28, shr_45_28, shR_45_29, shr_45_29, shR_45_33, shr_45_33, shR_45_34, shr_45_34, shR_45_35, shr_45_35, shR_45_36, shr_45_36, shR_45_37, shr_45_37, shR_45_38, shr_45_38, shR_45_39, shr_45_39, shR_45_40, shr_45_40, shR_45_42, shr_45_42, hs, ne_eq, not_false_eq_true, not_true_eq_false, reduceCtorEq, Nat.reduceEqDiff, forall_eq, true_and, and_true, true_implies, forall_const, implies_true, List.mem_cons, List.not_mem_nil, or_false, false_or, or_self, if_true, if_false, reduceIte, Nat.reduceAdd, Nat.reduceMul, Nat.reduceLT, false_implies, Decidable.not_not, bI_eq0, bI_eq1, upd_at, updL_at, Nat.succ_ne_zero, Int32.reduceToNatClampNeg, eq_self, i01, i10]
    rw [nI_tn (by omega), ht]
    simp (disch := omega) only [nI_inT, nI_leB, li_1, nI_add, ne_eq, not_false_eq_true, not_true_eq_false, reduceCtorEq, Nat.reduceEqDiff, forall_eq, true_and, and_true, true_implies, forall_const, implies_true, List.mem_cons, List.not_mem_nil, or_false, false_or, or_self, if_true, if_false, reduceIte, Nat.reduceAdd, Nat.reduceMul, Nat.reduceLT, false_implies, Decidable.not_not, bI_eq0, bI_eq1, upd_at, updL_at, Nat.succ_ne_zero, Int32.reduceToNatClampNeg, eq_self, i01, i10]
    refine ⟨fun z2 => ⟨by omega, ?_⟩, fun z2 => ⟨by omega, ?_⟩⟩
    · rw [mn, pick_f (by omega)]
    · rw [mn, pick_t ⟨trivial, by omega⟩]
theorem sX12_likelyIn {S : JS} {Q : Int32 → JS → Prop} {n l : Nat} (hs : jSh S) (hm : MW S) (hn : n < 60) (hl : l < 1000) (ht : tlOk S 60) (ho : onOk S 0) (h : ∀ r, LkP (jI S 47) n l r → Q r S) : wX12_likelyIn 45 (nI n) (nI l) S Q := by
  obtain ⟨R1, R2, R3⟩ := hm.1.1
  unfold wX12_likelyIn wX12_likelyIn_4
  refine jLoop.cnt (gR (jI S 47)) (fun c q => ∃ x, q = (45, nI n, nI l, x, nI c, S) ∧ ∀ i, i < 32 → (bt x i = true ↔ i < c ∧ gTl (jI S 47) n i + gD (jI S 47) (59 - n) i = l + gLs (jI S 47) n i)) 0 (by omega) ?_ ⟨0, rfl, fun i hi => by rw [b_0]; exact ⟨fun z => by (cases z), fun z => absurd z.1 (Nat.not_lt_zero _)⟩⟩
  rintro c _ hc ⟨x, rfl, hx⟩
  unfold bX12_likelyIn_4 wX12_likelyIn_38
  refine ⟨shA_45 hs, rk_of hs hm (jFr.refl [] _) (by decide) ?_⟩
  rw [nI_le' (by omega) (by omega)]
  refine ⟨fun z => ?_, fun z => ?_⟩
  · rw [show c = gR (jI S 47) by omega] at hx
    exact h x hx
  · have h1 := ht n c (by omega) (by omega)
    have h2 := (ho n c (by omega) (by omega) (by omega)).1
    have h3 := gTl_b hm.1 n c (by omega)
    have h4 := gD_16 hm.1 (k := 59 - n) (by omega) (show c < gR (jI S 47) by omega)
    have h5 := gL_D (row := jI S 47) (r := c) hn
    simp only [shA_45, shA_61, shZ_61, shA_62, shZ_62, shR_45_2, shr_45_2, shR_45_3, shr_45_3, shR_45_4, shr_45_4, shR_45_5, shr_45_5, shR_45_7, shr_45_7, shR_45_16, shr_45_16, shR_45_18, shr_45_18, shR_45_19, shr_45_19, shR_45_21, shr_45_21, shR_45_22, shr_45_22, shR_45_25, shr_45_25, shR_45_26, shr_45_26, shR_45_28, shr_45_28, shR_45_29, shr_45_29, shR_45_33, shr_45_33, shR_45_34, shr_45_34, shR_45_35, shr_45_35, shR_45_36, shr_45_36, shR_45_37, shr_45_37, shR_45_38, shr_45_38, shR_45_39, shr_45_39, shR_45_40, shr_45_40, shR_45_42, shr_45_42, hs, ne_eq, not_false_eq_true, not_true_eq_false, reduceCtorEq, Nat.reduceEqDiff, forall_eq, true_and, and_true, true_implies, forall_const, implies_true, List.mem_cons, List.not_mem_nil, or_false, false_or, or_self, if_true, if_false, reduceIte, Nat.reduceAdd, Nat.reduceMul, Nat.reduceLT, false_implies, Decidable.not_not, bI_eq0, bI_eq1, upd_at, updL_at, Nat.succ_ne_zero, Int32.reduceToNatClampNeg, eq_self, i01, i10]
    simp (disch := omega) only [li_9, nI_add, nI_mul, nI_inT, nI_tn, ne_eq, not_false_eq_true, not_true_eq_false, reduceCtorEq, Nat.reduceEqDiff, forall_eq, true_and, and_true, true_implies, forall_const, implies_true, List.mem_cons, List.not_mem_nil, or_false, false_or, or_self, if_true, if_false, reduceIte, Nat.reduceAdd, Nat.reduceMul, Nat.reduceLT, false_implies, Decidable.not_not, bI_eq0, bI_eq1, upd_at, updL_at, Nat.succ_ne_zero, Int32.reduceToNatClampNeg, eq_self, i01, i10]
    refine sX12_liesAt hs hm hn (by omega) ?_
    rw [h1, h2, nI_add, nI_sub (by omega), nI_eq' (by omega) (by omega)]
    simp only [nI_1, ne_eq, not_false_eq_true, not_true_eq_false, reduceCtorEq, Nat.reduceEqDiff, forall_eq, true_and, and_true, true_implies, forall_const, implies_true, List.mem_cons, List.not_mem_nil, or_false, false_or, or_self, if_true, if_false, reduceIte, Nat.reduceAdd, Nat.reduceMul, Nat.reduceLT, false_implies, Decidable.not_not, bI_eq0, bI_eq1, upd_at, updL_at, Nat.succ_ne_zero, Int32.reduceToNatClampNeg, eq_self, i01, i10]
    refine ⟨fun z2 => ⟨by omega, _, rfl, fun i hi => ?_⟩, fun z2 => ⟨by omega, _, rfl, fun i hi => ?_⟩⟩
    · rw [b_or, b_0, Bool.or_false, hx i hi]
      refine ⟨fun w => ⟨by omega, w.2⟩, fun w => ⟨?_, w.2⟩⟩
      rcases Nat.lt_or_ge i c with y | y
      · exact y
      · have : i = c := by omega
        subst this; omega
    · rw [b_set (by omega) hi, Bool.or_eq_true, hx i hi, decide_eq_true_iff]
      constructor
      · rintro (w | w)
        · exact ⟨by omega, w.2⟩
        · subst w; exact ⟨by omega, by omega⟩
      · intro w
        rcases Nat.lt_or_ge i c with y | y
        · exact Or.inl ⟨y, w.2⟩
        · exact Or.inr (by omega)
theorem LkP.uniq {row : Nat → Int32} {n l : Nat} {r r' : Int32} (h : LkP row n l r) (h' : LkP row n l r') : r = r' := b_bits h h'
/-- the model, after its lies are found -/
theorem m_lies {S1 : JS} {Q : JS → Prop} (hI1 : Inv S1) (h : ∀ S2, Inv S2 → jI S2 47 = jI S1 47 → jN S2 = jN S1 → nxOk S2 59 → tlOk S2 60 → onOk S2 0 → Q S2) : wX12_findLies 45 S1 Q := by
  refine sX12_findLies hI1.1 hI1.2.1 (fun S2 f2 k2 a b c => h S2 (hI1.m (f2.mono (by decide)) (k2.mono (by decide))) (f2.I 47 (by decide)) f2.N a b c)
theorem q_could {S : JS} {Q : Int32 → JS → Prop} {x : Int32} (hI : Inv S) (hq : ∀ r S1, Mdl (wX12_could 45 x) S r S1 → Q r S1) : wX11_could 0 x S Q := by
  unfold wX11_could
  refine sX11_isNight (fun n hn e => ⟨fun _ => ⟨shA_0 hI.1, ?_⟩, fun z => absurd z (by decide)⟩) (fun hx => ⟨fun z => absurd rfl z, fun _ => hq _ _ ⟨hI.1, fun Q' hq' => ?_⟩⟩)
  · subst e
    refine sX11_solve hI (fun S1 hI1 e47 eN sv => ?_)
    have hs1 := hI1.1
    have hr := hI.2.1.1
    have fin : ∀ r, LkP (jI S 47) n 0 r → Q r S1 := by
      intro r hr
      refine hq _ _ ⟨hs1, fun Q' hq' => ?_⟩
      unfold wX12_could
      simp only [shA_45 hs1, ne_eq, not_false_eq_true, not_true_eq_false, reduceCtorEq, Nat.reduceEqDiff, forall_eq, true_and, and_true, true_implies, forall_const, implies_true, List.mem_cons, List.not_mem_nil, or_false, false_or, or_self, if_true, if_false, reduceIte, Nat.reduceAdd, Nat.reduceMul, Nat.reduceLT, false_implies, Decidable.not_not, bI_eq0, bI_eq1, upd_at, updL_at, Nat.succ_ne_zero, Int32.reduceToNatClampNeg, eq_self, i01, i10]
      have hI0 : Inv (uI S1 45 0 0) := hI1.m ((jFr.refl _ _).uI (by decide)) ((jFk.refl _ _ _).sI (by decide))
      generalize eM : uI S1 45 0 0 = M at hI0 ⊢
      have eMI : ∀ h, h ≠ 45 → jI M h = jI S1 h := fun h hh => by rw [← eM]; exact jI_uI_ne hh
      have eMJ : jJ M = jJ S1 := by rw [← eM]; rfl
      have eMN : jN M = jN S1 := by rw [← eM]; rfl
      have hsM := hI0.1
      have hmM := hI0.2.1
      refine sX12_isNight (fun _ _ _ => ⟨fun _ => ⟨shA_45 hsM, ?_⟩, fun z => absurd z (by decide)⟩) (fun hx => absurd (ex59 hn) hx)
      refine m_lies hI0 (fun S2 hI2 e2 n2 x2 t2 o2 => ⟨shA_45 hI2.1, sX12_likelyIn (l := 0) hI2.1 hI2.2.1 hn (by omega) t2 o2 (fun r' hr' => ?_)⟩)
      rw [e2, eMI 47 (by decide), e47] at hr'
      rw [hr'.uniq hr]
      exact hq' S2 hI2 (by omega)
    simp only [shA_0, shA_29, shA_33, shZ_33, shR_0_0, shr_0_0, shR_0_1, shr_0_1, shR_0_2, shr_0_2, shR_0_3, shr_0_3, shR_0_4, shr_0_4, shR_0_5, shr_0_5, shR_0_6, shr_0_6, shR_0_7, shr_0_7, shR_0_8, shr_0_8, shR_0_9, shr_0_9, shR_29_0, shr_29_0, shR_29_1, shr_29_1, shR_29_2, shr_29_2, shR_29_3, shr_29_3, shR_29_4, shr_29_4, hs1, ne_eq, not_false_eq_true, not_true_eq_false, reduceCtorEq, Nat.reduceEqDiff, forall_eq, true_and, and_true, true_implies, forall_const, implies_true, List.mem_cons, List.not_mem_nil, or_false, false_or, or_self, if_true, if_false, reduceIte, Nat.reduceAdd, Nat.reduceMul, Nat.reduceLT, false_implies, Decidable.not_not, bI_eq0, bI_eq1, upd_at, updL_at, Nat.succ_ne_zero, Int32.reduceToNatClampNeg, eq_self, i01, i10]
    rw [nI_tn (by omega), sv.1, li_0, nI_eq' (by have := gF_16 hr; omega) (by omega)]
    refine ⟨fun z => fin 0 (fun i hi => ?_), fun z => ⟨nI_in2 (by omega) (by omega), fin _ (by have := sv.lk hr hn; rw [z] at this; exact this)⟩⟩
    rw [b_0]
    refine ⟨fun w => by (cases w), fun w => ?_⟩
    have := gTD_ge hr n i (by omega) w.1
    omega
  · have hI1 := hI
    have hs1 := hI.1
    unfold wX12_could
    simp only [shA_45 hI.1, ne_eq, not_false_eq_true, not_true_eq_false, reduceCtorEq, Nat.reduceEqDiff, forall_eq, true_and, and_true, true_implies, forall_const, implies_true, List.mem_cons, List.not_mem_nil, or_false, false_or, or_self, if_true, if_false, reduceIte, Nat.reduceAdd, Nat.reduceMul, Nat.reduceLT, false_implies, Decidable.not_not, bI_eq0, bI_eq1, upd_at, updL_at, Nat.succ_ne_zero, Int32.reduceToNatClampNeg, eq_self, i01, i10]
    have hI0 : Inv (uI S 45 0 0) := hI.m ((jFr.refl _ _).uI (by decide)) ((jFk.refl _ _ _).sI (by decide))
    exact sX12_isNight (fun n hn e => absurd (e ▸ ex59 hn) hx) (fun _ => ⟨fun z => absurd rfl z, fun _ => hq' _ hI0 (Nat.le_add_right _ _)⟩)
theorem q_lies {S : JS} {Q : Int32 → JS → Prop} (hI : Inv S) (hq : ∀ r S1, Mdl (wX12_lies 45) S r S1 → Q r S1) : wX11_lies 0 S Q := by
  unfold wX11_lies
  refine ⟨shA_0 hI.1, sX11_solve hI (fun S1 hI1 e47 eN sv => ?_)⟩
  have hs1 := hI1.1
  simp only [shA_0, shA_29, shR_0_0, shr_0_0, shR_0_1, shr_0_1, shR_0_2, shr_0_2, shR_0_3, shr_0_3, shR_0_4, shr_0_4, shR_0_5, shr_0_5, shR_0_6, shr_0_6, shR_0_7, shr_0_7, shR_0_8, shr_0_8, shR_0_9, shr_0_9, shR_29_0, shr_29_0, shR_29_1, shr_29_1, shR_29_2, shr_29_2, shR_29_3, shr_29_3, shR_29_4, shr_29_4, hs1, ne_eq, not_false_eq_true, not_true_eq_false, reduceCtorEq, Nat.reduceEqDiff, forall_eq, true_and, and_true, true_implies, forall_const, implies_true, List.mem_cons, List.not_mem_nil, or_false, false_or, or_self, if_true, if_false, reduceIte, Nat.reduceAdd, Nat.reduceMul, Nat.reduceLT, false_implies, Decidable.not_not, bI_eq0, bI_eq1, upd_at, updL_at, Nat.succ_ne_zero, Int32.reduceToNatClampNeg, eq_self, i01, i10]
  rw [sv.1]
  refine hq _ _ ⟨hs1, fun Q' hq' => ?_⟩
  unfold wX12_lies
  simp only [shA_45 hs1, jN_uI, jN_uJ, jN_uR, jK_uI, jK_uJ, jK_uR, jZ_uI, jZ_uJ, jZ_uR, jR_uI, jR_uJ, jr_uI, jr_uJ, jI_uJ, jI_uR, jJ_uI, jJ_uR, jI_uI_eq, jI_uI_ne, jJ_uJ_eq, jJ_uJ_ne, jSh_uI, jSh_uJ, jA_uI, jA_uJ, jA_uR, jI_uIf_eq, jI_uIf_ne, jJ_uIf, jR_uIf, jr_uIf, jZ_uIf, jSh_uIf, jA_uIf, ne_eq, not_false_eq_true, not_true_eq_false, reduceCtorEq, Nat.reduceEqDiff, forall_eq, true_and, and_true, true_implies, forall_const, implies_true, List.mem_cons, List.not_mem_nil, or_false, false_or, or_self, if_true, if_false, reduceIte, Nat.reduceAdd, Nat.reduceMul, Nat.reduceLT, false_implies, Decidable.not_not, bI_eq0, bI_eq1, upd_at, updL_at, Nat.succ_ne_zero, Int32.reduceToNatClampNeg, eq_self, i01, i10]
  have hI0 : Inv (uI S1 45 0 0) := hI1.m ((jFr.refl _ _).uI (by decide)) ((jFk.refl _ _ _).sI (by decide))
  generalize eM : uI S1 45 0 0 = M at hI0 ⊢
  have eMI : ∀ h, h ≠ 45 → jI M h = jI S1 h := fun h hh => by rw [← eM]; exact jI_uI_ne hh
  have eMJ : jJ M = jJ S1 := by rw [← eM]; rfl
  have eMN : jN M = jN S1 := by rw [← eM]; rfl
  have hsM := hI0.1
  have hmM := hI0.2.1
  refine m_lies hI0 (fun S2 hI2 e2 n2 x2 t2 o2 => ⟨shA_45 hI2.1, sX12_fewest hI2.1 hI2.2.1 o2 ?_⟩)
  rw [e2, eMI 47 (by decide), e47]
  exact hq' S2 hI2 (by omega)
theorem q_ways {S : JS} {Q : Int64 → JS → Prop} (hI : Inv S) (hq : ∀ r S1, MdlL (wX12_ways 45) S r S1 → Q r S1) : wX11_ways 0 S Q := by
  unfold wX11_ways
  refine ⟨shA_0 hI.1, sX11_solve hI (fun S1 hI1 e47 eN sv => ?_)⟩
  have hs1 := hI1.1
  simp only [shA_0, shA_29, shR_0_0, shr_0_0, shR_0_1, shr_0_1, shR_0_2, shr_0_2, shR_0_3, shr_0_3, shR_0_4, shr_0_4, shR_0_5, shr_0_5, shR_0_6, shr_0_6, shR_0_7, shr_0_7, shR_0_8, shr_0_8, shR_0_9, shr_0_9, shR_29_0, shr_29_0, shR_29_1, shr_29_1, shR_29_2, shr_29_2, shR_29_3, shr_29_3, shR_29_4, shr_29_4, hs1, ne_eq, not_false_eq_true, not_true_eq_false, reduceCtorEq, Nat.reduceEqDiff, forall_eq, true_and, and_true, true_implies, forall_const, implies_true, List.mem_cons, List.not_mem_nil, or_false, false_or, or_self, if_true, if_false, reduceIte, Nat.reduceAdd, Nat.reduceMul, Nat.reduceLT, false_implies, Decidable.not_not, bI_eq0, bI_eq1, upd_at, updL_at, Nat.succ_ne_zero, Int32.reduceToNatClampNeg, eq_self, i01, i10]
  rw [sv.2.1]
  refine hq _ _ ⟨hs1, fun Q' hq' => ?_⟩
  unfold wX12_ways
  simp only [shA_45 hs1, jN_uI, jN_uJ, jN_uR, jK_uI, jK_uJ, jK_uR, jZ_uI, jZ_uJ, jZ_uR, jR_uI, jR_uJ, jr_uI, jr_uJ, jI_uJ, jI_uR, jJ_uI, jJ_uR, jI_uI_eq, jI_uI_ne, jJ_uJ_eq, jJ_uJ_ne, jSh_uI, jSh_uJ, jA_uI, jA_uJ, jA_uR, jI_uIf_eq, jI_uIf_ne, jJ_uIf, jR_uIf, jr_uIf, jZ_uIf, jSh_uIf, jA_uIf, ne_eq, not_false_eq_true, not_true_eq_false, reduceCtorEq, Nat.reduceEqDiff, forall_eq, true_and, and_true, true_implies, forall_const, implies_true, List.mem_cons, List.not_mem_nil, or_false, false_or, or_self, if_true, if_false, reduceIte, Nat.reduceAdd, Nat.reduceMul, Nat.reduceLT, false_implies, Decidable.not_not, bI_eq0, bI_eq1, upd_at, updL_at, Nat.succ_ne_zero, Int32.reduceToNatClampNeg, eq_self, i01, i10]
  have hI0 : Inv (uI S1 45 0 0) := hI1.m ((jFr.refl _ _).uI (by decide)) ((jFk.refl _ _ _).sI (by decide))
  generalize eM : uI S1 45 0 0 = M at hI0 ⊢
  have eMI : ∀ h, h ≠ 45 → jI M h = jI S1 h := fun h hh => by rw [← eM]; exact jI_uI_ne hh
  have eMJ : jJ M = jJ S1 := by rw [← eM]; rfl
  have eMN : jN M = jN S1 := by rw [← eM]; rfl
  have hsM := hI0.1
  have hmM := hI0.2.1
  refine m_lies hI0 (fun S2 hI2 e2 n2 x2 t2 o2 => ?_)
  have hs2 := hI2.1
  have hm2 := hI2.2.1
  have e2' : jI S2 47 = jI S 47 := by rw [e2, eMI 47 (by decide), e47]
  obtain ⟨R1, R2, R3⟩ := hm2.1.1
  unfold wX12_ways_9
  refine jLoop.cnt (gR (jI S2 47)) (fun c q => q = (45, lN (gNv (jI S2 47) c), nI c, S2)) 0 (by omega) ?_ rfl
  rintro c _ hc rfl
  unfold bX12_ways_9 wX12_ways_27
  refine ⟨shA_45 hs2, rk_of hs2 hm2 (jFr.refl [] _) (by decide) ?_⟩
  rw [nI_le' (by omega) (by omega), lg_cmp_le, lil]
  have hb := gNv_b (jI S2 47) (gW_b (jI S2 47) 59) c
  have hb2 : gNv (jI S2 47) c < 9000000000000000 := Nat.lt_of_le_of_lt hb (Nat.lt_of_le_of_lt (Nat.mul_le_mul_right _ (show c ≤ 9 by omega)) (by decide))
  rw [lN_le' hb2 (by decide)]
  refine ⟨fun z => ⟨fun z2 => ?_, fun z2 => ?_⟩, fun z => ?_⟩
  · have := hq' S2 hI2 (by omega)
    rw [gNu_v, ← e2', ← show c = gR (jI S2 47) by omega, Nat.min_eq_right z2] at this; exact this
  · have := hq' S2 hI2 (by omega)
    rw [gNu_v, ← e2', ← show c = gR (jI S2 47) by omega, Nat.min_eq_left (by omega)] at this; exact this
  · have ht := o2 0 c (by omega) (by omega) (by omega)
    rw [Nat.mul_zero, Nat.zero_add, Nat.sub_zero] at ht
    have h16 := gD_16 hm2.1 (k := 59) (by omega) (show c < gR (jI S2 47) by omega)
    have f16 := gF_16 hm2.1
    simp only [shA_45, shA_62, shZ_62, shA_63, shZ_63, shR_45_2, shr_45_2, shR_45_3, shr_45_3, shR_45_4, shr_45_4, shR_45_5, shr_45_5, shR_45_7, shr_45_7, shR_45_16, shr_45_16, shR_45_18, shr_45_18, shR_45_19, shr_45_19, shR_45_21, shr_45_21, shR_45_22, shr_45_22, shR_45_25, shr_45_25, shR_45_26, shr_45_26, shR_45_28, shr_45_28, shR_45_29, shr_45_29, shR_45_33, shr_45_33, shR_45_34, shr_45_34, shR_45_35, shr_45_35, shR_45_36, shr_45_36, shR_45_37, shr_45_37, shR_45_38, shr_45_38, shR_45_39, shr_45_39, shR_45_40, shr_45_40, shR_45_42, shr_45_42, hs2, ne_eq, not_false_eq_true, not_true_eq_false, reduceCtorEq, Nat.reduceEqDiff, forall_eq, true_and, and_true, true_implies, forall_const, implies_true, List.mem_cons, List.not_mem_nil, or_false, false_or, or_self, if_true, if_false, reduceIte, Nat.reduceAdd, Nat.reduceMul, Nat.reduceLT, false_implies, Decidable.not_not, bI_eq0, bI_eq1, upd_at, updL_at, Nat.succ_ne_zero, Int32.reduceToNatClampNeg, eq_self, i01, i10]
    refine ⟨nI_in2 (by omega) (by omega), sX12_fewest hs2 hm2 o2 ?_⟩
    rw [nI_tn (by omega), ht.1, nI_eq' (by omega) (by omega)]
    simp only [shA_45, shA_62, shZ_62, shA_63, shZ_63, shR_45_2, shr_45_2, shR_45_3, shr_45_3, shR_45_4, shr_45_4, shR_45_5, shr_45_5, shR_45_7, shr_45_7, shR_45_16, shr_45_16, shR_45_18, shr_45_18, shR_45_19, shr_45_19, shR_45_21, shr_45_21, shR_45_22, shr_45_22, shR_45_25, shr_45_25, shR_45_26, shr_45_26, shR_45_28, shr_45_28, shR_45_29, shr_45_29, shR_45_33, shr_45_33, shR_45_34, shr_45_34, shR_45_35, shr_45_35, shR_45_36, shr_45_36, shR_45_37, shr_45_37, shR_45_38, shr_45_38, shR_45_39, shr_45_39, shR_45_40, shr_45_40, shR_45_42, shr_45_42, hs2, nI_1, ht.2, lN_add, show (0 : Int64) = lN 0 from rfl, ne_eq, not_false_eq_true, not_true_eq_false, reduceCtorEq, Nat.reduceEqDiff, forall_eq, true_and, and_true, true_implies, forall_const, implies_true, List.mem_cons, List.not_mem_nil, or_false, false_or, or_self, if_true, if_false, reduceIte, Nat.reduceAdd, Nat.reduceMul, Nat.reduceLT, false_implies, Decidable.not_not, bI_eq0, bI_eq1, upd_at, updL_at, Nat.succ_ne_zero, Int32.reduceToNatClampNeg, eq_self, i01, i10]
    refine ⟨fun z2 => ⟨by omega, ?_⟩, fun z2 => ⟨nI_in2 (by omega) (by omega), by omega, ?_⟩⟩
    · rw [gNv, pick_f z2]
    · rw [gNv, pick_t z2]
