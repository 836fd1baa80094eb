theorem m_first {S : JS} {Q : Int32 → JS → Prop} {n : Nat} {w : Nat → Nat} (hs : jSh S) (hm : MW S) (hn : n < 60) (hx : nxOk S 59) (ho : onOk S 0) (hw : FwOk (jI S 47) w 59) (h : Q (nI (w n)) S) : wX12_likely_26 45 (nI n) 0 S Q := by
  obtain ⟨R1, R2, R3⟩ := hm.1.1
  have f16 := gF_16 hm.1
  have wR := fun k (hk : k < 60) => hw.lt k (by omega)
  unfold wX12_likely_26
  refine jLoop.cnt (w 0) (fun c q => q = (45, nI n, nI c, S)) 0 (by omega) ?_ rfl
  rintro c _ hc rfl
  have := wR 0 (by omega)
  have ht := (ho 0 c (by omega) (by omega) (by omega)).1
  rw [Nat.mul_zero, Nat.zero_add, Nat.sub_zero] at ht
  have h16 := gD_16 hm.1 (k := 59) (by omega) (show c < gR (jI S 47) by omega)
  unfold bX12_likely_26
  simp only [shA_45, shA_62, shZ_62, shR_45_2, shr_45_2, shR_45_3, shr_45_3, shR_45_4, shr_45_4, shR_45_5, shr_45_5, shR_45_7, shr_45_7, shR_45_16, shr_45_16, shR_45_18, shr_45_18, shR_45_19, shr_45_19, shR_45_21, shr_45_21, shR_45_22, shr_45_22, shR_45_25, shr_45_25, shR_45_26, shr_45_26, shR_45_28, shr_45_28, shR_45_29, shr_45_29, shR_45_33, shr_45_33, shR_45_34, shr_45_34, shR_45_35, shr_45_35, shR_45_36, shr_45_36, shR_45_37, shr_45_37, shR_45_38, shr_45_38, shR_45_39, shr_45_39, shR_45_40, shr_45_40, shR_45_42, shr_45_42, hs, ne_eq, not_false_eq_true, not_true_eq_false, reduceCtorEq, Nat.reduceEqDiff, forall_eq, true_and, and_true, true_implies, forall_const, implies_true, List.mem_cons, List.not_mem_nil, or_false, false_or, or_self, if_true, if_false, reduceIte, Nat.reduceAdd, Nat.reduceMul, Nat.reduceLT, false_implies, Decidable.not_not, bI_eq0, bI_eq1, upd_at, updL_at, Nat.succ_ne_zero, Int32.reduceToNatClampNeg, eq_self, i01, i10]
  refine ⟨nI_in2 (by omega) (by omega), sX12_fewest hs hm ho ?_⟩
  rw [nI_tn (by omega), ht, nI_eq' (by omega) (by omega)]
  refine ⟨fun z => ?_, fun z => ⟨?_, by rw [nI_1]⟩⟩
  · have e0 : c = w 0 := by
      rcases Nat.lt_or_ge c (w 0) with l | l
      · exact absurd (show gFo (jI S 47) 0 c from ⟨by omega, z⟩) (hw.1.2 c l)
      · omega
    subst e0
    unfold wX12_likely_37
    refine jLoop.cnt n (fun m q => q = (45, nI n, nI (w m), nI m, S)) 0 (by omega) ?_ rfl
    rintro m _ hm1 rfl
    have hwm := wR m (by omega)
    have hD := (ho m (w m) (by omega) (by omega) hwm).1
    have hLD := gL_D (row := jI S 47) (n := m) (r := w m) (by omega)
    have h16 := gD_16 hm.1 (k := 59 - m) (by omega) hwm
    unfold bX12_likely_37
    simp only [shA_45, shA_62, shZ_62, shR_45_2, shr_45_2, shR_45_3, shr_45_3, shR_45_4, shr_45_4, shR_45_5, shr_45_5, shR_45_7, shr_45_7, shR_45_16, shr_45_16, shR_45_18, shr_45_18, shR_45_19, shr_45_19, shR_45_21, shr_45_21, shR_45_22, shr_45_22, shR_45_25, shr_45_25, shR_45_26, shr_45_26, shR_45_28, shr_45_28, shR_45_29, shr_45_29, shR_45_33, shr_45_33, shR_45_34, shr_45_34, shR_45_35, shr_45_35, shR_45_36, shr_45_36, shR_45_37, shr_45_37, shR_45_38, shr_45_38, shR_45_39, shr_45_39, shR_45_40, shr_45_40, shR_45_42, shr_45_42, hs, ne_eq, not_false_eq_true, not_true_eq_false, reduceCtorEq, Nat.reduceEqDiff, forall_eq, true_and, and_true, true_implies, forall_const, implies_true, List.mem_cons, List.not_mem_nil, or_false, false_or, or_self, if_true, if_false, reduceIte, Nat.reduceAdd, Nat.reduceMul, Nat.reduceLT, false_implies, Decidable.not_not, bI_eq0, bI_eq1, upd_at, updL_at, Nat.succ_ne_zero, Int32.reduceToNatClampNeg, eq_self, i01, i10]
    simp (disch := omega) only [li_9, nI_add, nI_mul, nI_inT, nI_tn, nI_le', ne_eq, not_false_eq_true, not_true_eq_false, reduceCtorEq, Nat.reduceEqDiff, forall_eq, true_and, and_true, true_implies, forall_const, implies_true, List.mem_cons, List.not_mem_nil, or_false, false_or, or_self, if_true, if_false, reduceIte, Nat.reduceAdd, Nat.reduceMul, Nat.reduceLT, false_implies, Decidable.not_not, bI_eq0, bI_eq1, upd_at, updL_at, Nat.succ_ne_zero, Int32.reduceToNatClampNeg, eq_self, i01, i10]
    refine ⟨fun z2 => ?_, fun z2 => sX12_liesAt hs hm (by omega) (by omega) ?_⟩
    · rw [show m = n by omega]; exact h
    · rw [hD, nI_sub hLD]
      have hlow := hw.2 m (by omega)
      have hwm1 := wR (m + 1) (by omega)
      unfold wX12_likely_56
      refine jLoop.cnt (w (m + 1)) (fun d q => q = (45, nI n, nI (w m), nI m, nI (gD (jI S 47) (59 - m) (w m) - gLs (jI S 47) m (w m)), nI d, S)) 0 (by omega) ?_ rfl
      rintro d _ hd rfl
      have hxx := hx m (w m) (by omega) hwm
      have hDd := (ho (m + 1) d (by omega) (by omega) (by omega)).1
      have h16d := gD_16 hm.1 (k := 59 - (m + 1)) (by omega) (show d < gR (jI S 47) by omega)
      have skip : ¬ gBs (jI S 47) m (w m) d → d < w (m + 1) := by
        intro hg
        rcases Nat.lt_or_ge d (w (m + 1)) with l | l
        · exact l
        · rw [show d = w (m + 1) by omega] at hg; exact absurd hlow.1 hg
      unfold bX12_likely_56 wX12_likely_79
      simp only [shA_45, shA_60, shZ_60, shR_45_2, shr_45_2, shR_45_3, shr_45_3, shR_45_4, shr_45_4, shR_45_5, shr_45_5, shR_45_7, shr_45_7, shR_45_16, shr_45_16, shR_45_18, shr_45_18, shR_45_19, shr_45_19, shR_45_21, shr_45_21, shR_45_22, shr_45_22, shR_45_25, shr_45_25, shR_45_26, shr_45_26, shR_45_28, shr_45_28, shR_45_29, shr_45_29, shR_45_33, shr_45_33, shR_45_34, shr_45_34, shR_45_35, shr_45_35, shR_45_36, shr_45_36, shR_45_37, shr_45_37, shR_45_38, shr_45_38, shR_45_39, shr_45_39, shR_45_40, shr_45_40, shR_45_42, shr_45_42, hs, ne_eq, not_false_eq_true, not_true_eq_false, reduceCtorEq, Nat.reduceEqDiff, forall_eq, true_and, and_true, true_implies, forall_const, implies_true, List.mem_cons, List.not_mem_nil, or_false, false_or, or_self, if_true, if_false, reduceIte, Nat.reduceAdd, Nat.reduceMul, Nat.reduceLT, false_implies, Decidable.not_not, bI_eq0, bI_eq1, upd_at, updL_at, Nat.succ_ne_zero, Int32.reduceToNatClampNeg, eq_self, i01, i10]
      simp (disch := omega) only [li_9, li_1, nI_add, nI_mul, nI_inT, nI_tn, ne_eq, not_false_eq_true, not_true_eq_false, reduceCtorEq, Nat.reduceEqDiff, forall_eq, true_and, and_true, true_implies, forall_const, implies_true, List.mem_cons, List.not_mem_nil, or_false, false_or, or_self, if_true, if_false, reduceIte, Nat.reduceAdd, Nat.reduceMul, Nat.reduceLT, false_implies, Decidable.not_not, bI_eq0, bI_eq1, upd_at, updL_at, Nat.succ_ne_zero, Int32.reduceToNatClampNeg, eq_self, i01, i10]
      refine sX12_is (by omega) (fun hb => ?_) (fun hb => ?_)
      · have hg := (hxx d (by omega)).mp hb
        simp only [shA_45, shA_62, shZ_62, shR_45_2, shr_45_2, shR_45_3, shr_45_3, shR_45_4, shr_45_4, shR_45_5, shr_45_5, shR_45_7, shr_45_7, shR_45_16, shr_45_16, shR_45_18, shr_45_18, shR_45_19, shr_45_19, shR_45_21, shr_45_21, shR_45_22, shr_45_22, shR_45_25, shr_45_25, shR_45_26, shr_45_26, shR_45_28, shr_45_28, shR_45_29, shr_45_29, shR_45_33, shr_45_33, shR_45_34, shr_45_34, shR_45_35, shr_45_35, shR_45_36, shr_45_36, shR_45_37, shr_45_37, shR_45_38, shr_45_38, shR_45_39, shr_45_39, shR_45_40, shr_45_40, shR_45_42, shr_45_42, hs, ne_eq, not_false_eq_true, not_true_eq_false, reduceCtorEq, Nat.reduceEqDiff, forall_eq, true_and, and_true, true_implies, forall_const, implies_true, List.mem_cons, List.not_mem_nil, or_false, false_or, or_self, if_true, if_false, reduceIte, Nat.reduceAdd, Nat.reduceMul, Nat.reduceLT, false_implies, Decidable.not_not, bI_eq0, bI_eq1, upd_at, updL_at, Nat.succ_ne_zero, Int32.reduceToNatClampNeg, eq_self, i01, i10]
        rw [show 9 * m + 9 + d = 9 * (m + 1) + d by omega, hDd]
        simp (disch := omega) only [nI_inT, nI_eq', ne_eq, not_false_eq_true, not_true_eq_false, reduceCtorEq, Nat.reduceEqDiff, forall_eq, true_and, and_true, true_implies, forall_const, implies_true, List.mem_cons, List.not_mem_nil, or_false, false_or, or_self, if_true, if_false, reduceIte, Nat.reduceAdd, Nat.reduceMul, Nat.reduceLT, false_implies, Decidable.not_not, bI_eq0, bI_eq1, upd_at, updL_at, Nat.succ_ne_zero, Int32.reduceToNatClampNeg, eq_self, i01, i10]
        refine ⟨fun z3 => ⟨by omega, ?_⟩, fun z3 => skip (fun y => by have := y.2; omega)⟩
        rcases Nat.lt_or_ge d (w (m + 1)) with l | l
        · exact absurd ⟨hg, by omega⟩ (hlow.2 d l)
        · rw [show d = w (m + 1) by omega]
      · simp only [ne_eq, not_false_eq_true, not_true_eq_false, reduceCtorEq, Nat.reduceEqDiff, forall_eq, true_and, and_true, true_implies, forall_const, implies_true, List.mem_cons, List.not_mem_nil, or_false, false_or, or_self, if_true, if_false, reduceIte, Nat.reduceAdd, Nat.reduceMul, Nat.reduceLT, false_implies, Decidable.not_not, bI_eq0, bI_eq1, upd_at, updL_at, Nat.succ_ne_zero, Int32.reduceToNatClampNeg, eq_self, i01, i10]
        exact skip (fun y => hb ((hxx d (by omega)).mpr y.1))
  · rcases Nat.lt_or_ge c (w 0) with l | l
    · exact l
    · rw [show c = w 0 by omega] at z; exact absurd hw.1.1.2 z
theorem q_likely {S : JS} {Q : Int32 → JS → Prop} {x y : Int32} (hI : Inv S) (hq : ∀ r S1, Mdl (wX12_likely 45 x y) S r S1 → Q r S1) : wX11_likely 0 x y S Q := by
  have no : (¬ (0 ≤ x ∧ x ≤ 59) ∨ ¬ (0 ≤ y ∧ y ≤ 1)) → Q (-1) S := by
    intro hx
    refine hq _ _ ⟨hI.1, fun Q' hq' => ?_⟩
    unfold wX12_likely
    simp only [shA_45 hI.1, ne_eq, not_false_eq_true, not_true_eq_false, reduceCtorEq, Nat.reduceEqDiff, forall_eq, true_and, and_true, true_implies, forall_const, implies_true, List.mem_cons, List.not_mem_nil, or_false, false_or, or_self, if_true, if_false, reduceIte, Nat.reduceAdd, Nat.reduceMul, Nat.reduceLT, false_implies, Decidable.not_not, bI_eq0, bI_eq1, upd_at, updL_at, Nat.succ_ne_zero, Int32.reduceToNatClampNeg, eq_self, i01, i10]
    have hI0 : Inv (uI S 45 0 0) := hI.m ((jFr.refl _ _).uI (by decide)) ((jFk.refl _ _ _).sI (by decide))
    have fin := hq' _ hI0 (Nat.le_add_right _ _)
    refine sX12_isNight (fun n hn e => ⟨fun z => absurd z (by decide), fun _ => ?_⟩) (fun _ => ⟨fun _ => fin, fun z => absurd rfl z⟩)
    refine sX12_in' 0 1 rfl rfl (fun z1 z2 => ?_) (fun _ => ⟨fun z => absurd rfl z, fun _ => fin⟩)
    rcases hx with hx | hx
    · exact absurd (e ▸ ex59 hn) hx
    · exact absurd ⟨z1, z2⟩ hx
  unfold wX11_likely
  refine sX11_isNight (fun n hn e => ⟨fun z => absurd z (by decide), fun _ => ?_⟩) (fun hx => ⟨fun _ => no (Or.inl hx), fun z => absurd rfl z⟩)
  refine sX11_isBit (fun b hb eb => ⟨fun _ => ⟨shA_0 hI.1, ?_⟩, fun z => absurd z (by decide)⟩) (fun hx => ⟨fun z => absurd rfl z, fun _ => no (Or.inr hx)⟩)
  subst e eb
  refine sX11_solve hI (fun S1 hI1 e47 eN sv => ?_)
  have hs1 := hI1.1
  have hr := hI.2.1.1
  simp only [shA_0, shA_29, shA_33, shZ_33, shA_34, shZ_34, shR_0_0, shr_0_0, shR_0_1, shr_0_1, shR_0_2, shr_0_2, shR_0_3, shr_0_3, shR_0_4, shr_0_4, shR_0_5, shr_0_5, shR_0_6, shr_0_6, shR_0_7, shr_0_7, shR_0_8, shr_0_8, shR_0_9, shr_0_9, shR_29_0, shr_29_0, shR_29_1, shr_29_1, shR_29_2, shr_29_2, shR_29_3, shr_29_3, shR_29_4, shr_29_4, hs1, ne_eq, not_false_eq_true, not_true_eq_false, reduceCtorEq, Nat.reduceEqDiff, forall_eq, true_and, and_true, true_implies, forall_const, implies_true, List.mem_cons, List.not_mem_nil, or_false, false_or, or_self, if_true, if_false, reduceIte, Nat.reduceAdd, Nat.reduceMul, Nat.reduceLT, false_implies, Decidable.not_not, bI_eq0, bI_eq1, upd_at, updL_at, Nat.succ_ne_zero, Int32.reduceToNatClampNeg, eq_self, i01, i10]
  rw [nI_tn (by omega), li_0, nI_eq' (by omega) (by omega)]
  refine ⟨fun z => ⟨nI_in2 (by omega) (by omega), ?_⟩, fun z => ⟨nI_in2 (by omega) (by omega), ?_⟩⟩
  · obtain ⟨w, w1, w2⟩ := sv.2.2.2
    rw [w2 n hn]
    refine hq _ _ ⟨hs1, fun Q' hq' => ?_⟩
    unfold wX12_likely
    simp only [shA_45 hs1, ne_eq, not_false_eq_true, not_true_eq_false, reduceCtorEq, Nat.reduceEqDiff, forall_eq, true_and, and_true, true_implies, forall_const, implies_true, List.mem_cons, List.not_mem_nil, or_false, false_or, or_self, if_true, if_false, reduceIte, Nat.reduceAdd, Nat.reduceMul, Nat.reduceLT, false_implies, Decidable.not_not, bI_eq0, bI_eq1, upd_at, updL_at, Nat.succ_ne_zero, Int32.reduceToNatClampNeg, eq_self, i01, i10]
    have hI0 : Inv (uI S1 45 0 0) := hI1.m ((jFr.refl _ _).uI (by decide)) ((jFk.refl _ _ _).sI (by decide))
    generalize eM : uI S1 45 0 0 = M at hI0 ⊢
    have eMI : ∀ h, h ≠ 45 → jI M h = jI S1 h := fun h hh => by rw [← eM]; exact jI_uI_ne hh
    have eMJ : jJ M = jJ S1 := by rw [← eM]; rfl
    have eMN : jN M = jN S1 := by rw [← eM]; rfl
    have hsM := hI0.1
    have hmM := hI0.2.1
    refine sX12_isNight (fun _ _ _ => ⟨fun z => absurd z (by decide), fun _ => ?_⟩) (fun hx => absurd (ex59 hn) hx)
    refine sX12_in' 0 1 rfl rfl (fun z1 z2 => ⟨fun _ => ⟨shA_45 hsM, ?_⟩, fun z => absurd z (by decide)⟩) (fun hx => absurd (ex1 hb) hx)
    refine m_lies hI0 (fun S2 hI2 e2 n2 x2 t2 o2 => ?_)
    rw [li_0, nI_eq' (by omega) (by omega)]
    refine ⟨fun _ => ?_, fun z2 => absurd z2 z⟩
    refine m_first hI2.1 hI2.2.1 hn x2 o2 (w := w) (by rw [e2, eMI 47 (by decide), e47]; exact w1) (hq' S2 hI2 (by omega))
  · refine hq _ _ ⟨hs1, fun Q' hq' => ?_⟩
    unfold wX12_likely
    simp only [shA_45 hs1, ne_eq, not_false_eq_true, not_true_eq_false, reduceCtorEq, Nat.reduceEqDiff, forall_eq, true_and, and_true, true_implies, forall_const, implies_true, List.mem_cons, List.not_mem_nil, or_false, false_or, or_self, if_true, if_false, reduceIte, Nat.reduceAdd, Nat.reduceMul, Nat.reduceLT, false_implies, Decidable.not_not, bI_eq0, bI_eq1, upd_at, updL_at, Nat.succ_ne_zero, Int32.reduceToNatClampNeg, eq_self, i01, i10]
    have hI0 : Inv (uI S1 45 0 0) := hI1.m ((jFr.refl _ _).uI (by decide)) ((jFk.refl _ _ _).sI (by decide))
    generalize eM : uI S1 45 0 0 = M at hI0 ⊢
    have eMI : ∀ h, h ≠ 45 → jI M h = jI S1 h := fun h hh => by rw [← eM]; exact jI_uI_ne hh
    have eMJ : jJ M = jJ S1 := by rw [← eM]; rfl
    have eMN : jN M = jN S1 := by rw [← eM]; rfl
    have hsM := hI0.1
    have hmM := hI0.2.1
    refine sX12_isNight (fun _ _ _ => ⟨fun z => absurd z (by decide), fun _ => ?_⟩) (fun hx => absurd (ex59 hn) hx)
    refine sX12_in' 0 1 rfl rfl (fun z1 z2 => ⟨fun _ => ⟨shA_45 hsM, ?_⟩, fun z => absurd z (by decide)⟩) (fun hx => absurd (ex1 hb) hx)
    refine m_lies hI0 (fun S2 hI2 e2 n2 x2 t2 o2 => ?_)
    rw [li_0, nI_eq' (by omega) (by omega)]
    refine ⟨fun z2 => absurd z z2, fun _ => ⟨shA_45 hI2.1, sX12_fewest hI2.1 hI2.2.1 o2 ⟨shA_45 hI2.1, ?_⟩⟩⟩
    have f16 := gF_16 hI2.2.1.1
    refine sX12_likelyIn hI2.1 hI2.2.1 hn (by omega) t2 o2 (fun r' hr' => ?_)
    rw [e2, eMI 47 (by decide), e47] at hr'
    rw [hr'.uniq (sv.lk hr hn)]
    exact hq' S2 hI2 (by omega)
/-! liars -/
theorem ls_a {x t : Int32} : x &&& (t ^^^ -1) = x ↔ x &&& t = 0 := by
  constructor
  · intro h
    apply b_ext; intro i hi
    have := congrArg (fun z => bt z i) h
    simp only [b_and, b_xor, b_m1 i hi, b_0] at this ⊢
    cases h1 : bt x i <;> cases h2 : bt t i <;> simp_all
  · intro h
    apply b_ext; intro i hi
    have := congrArg (fun z => bt z i) h
    simp only [b_and, b_xor, b_m1 i hi, b_0] at this ⊢
    cases h1 : bt x i <;> cases h2 : bt t i <;> simp_all
theorem ls_b {x t : Int32} : x &&& t = x ↔ x &&& (t ^^^ -1) = 0 := by
  constructor
  · intro h
    apply b_ext; intro i hi
    have := congrArg (fun z => bt z i) h
    simp only [b_and, b_xor, b_m1 i hi, b_0] at this ⊢
    cases h1 : bt x i <;> cases h2 : bt t i <;> simp_all
  · intro h
    apply b_ext; intro i hi
    have := congrArg (fun z => bt z i) h
    simp only [b_and, b_xor, b_m1 i hi, b_0] at this ⊢
    cases h1 : bt x i <;> cases h2 : bt t i <;> simp_all
/-- a report lies in all of the ways (what 0), in some (1) -/
def lrC (row : Nat → Int32) (lk : Nat → Int32) (b i : Nat) : Prop := (b = 0 ∧ row (140 + 3 * i + 2) = 1 ∧ lk (row (140 + 3 * i + 1)).toNatClampNeg &&& ((1 : Int32) <<< (row (140 + 3 * i) &&& 31)) = 0) ∨ (b = 0 ∧ ¬ row (140 + 3 * i + 2) = 1 ∧ lk (row (140 + 3 * i + 1)).toNatClampNeg &&& (((1 : Int32) <<< (row (140 + 3 * i) &&& 31)) ^^^ -1) = 0) ∨ (¬ b = 0 ∧ row (140 + 3 * i + 2) = 1 ∧ ¬ lk (row (140 + 3 * i + 1)).toNatClampNeg &&& ((1 : Int32) <<< (row (140 + 3 * i) &&& 31)) = lk (row (140 + 3 * i + 1)).toNatClampNeg) ∨ (¬ b = 0 ∧ ¬ row (140 + 3 * i + 2) = 1 ∧ ¬ lk (row (140 + 3 * i + 1)).toNatClampNeg &&& (((1 : Int32) <<< (row (140 + 3 * i) &&& 31)) ^^^ -1) = lk (row (140 + 3 * i + 1)).toNatClampNeg)
theorem bits_up {P : Nat → Prop} {x : Int32} {c : Nat} (hc : c < 32) (hx : ∀ i, i < 32 → (bt x i = true ↔ i < c ∧ P i)) (h : P c) : ∀ i, i < 32 → (bt (x ||| ((1 : Int32) <<< (nI c &&& 31))) i = true ↔ i < c + 1 ∧ P i) := by
  intro i hi
  rw [b_set hc hi, Bool.or_eq_true, hx i hi, decide_eq_true_iff]
  constructor
  · rintro (w | w)
    · exact ⟨by omega, w.2⟩
    · subst w; exact ⟨by omega, h⟩
  · intro w
    rcases Nat.lt_or_ge i c with y | y
    · exact Or.inl ⟨y, w.2⟩
    · exact Or.inr (by omega)
theorem bits_no {P : Nat → Prop} {x : Int32} {c : Nat} (hx : ∀ i, i < 32 → (bt x i = true ↔ i < c ∧ P i)) (h : ¬ P c) : ∀ i, i < 32 → (bt x i = true ↔ i < c + 1 ∧ P i) := by
  intro i hi
  rw [hx i hi]
  refine ⟨fun w => ⟨by omega, w.2⟩, fun w => ⟨?_, w.2⟩⟩
  rcases Nat.lt_or_ge i c with y | y
  · exact y
  · have : i = c := by omega
    subst this; exact absurd w.2 h
theorem bits_0 {P : Nat → Prop} : ∀ i, i < 32 → (bt 0 i = true ↔ i < 0 ∧ P i) := fun i _ => by rw [b_0]; exact ⟨fun z => by (cases z), fun z => absurd z.1 (Nat.not_lt_zero _)⟩
theorem sX7_lyingReports {S : JS} {Q : Int32 → JS → Prop} {b : Nat} (hs : jSh S) (hm : MW S) (hb : b < 2) (h : ∀ r, (∀ i, i < 32 → (bt r i = true ↔ i < (jI S 47 6).toNatClampNeg ∧ lrC (jI S 47) (jI S 33) b i)) → Q r S) : wX7_lyingReports 29 1 (if b = 0 then 1 else 0) S Q := by
  obtain ⟨q, q1, q2, q3, q4, q5⟩ := hm.rep
  have hR := hm.1.1.2.1
  unfold wX7_lyingReports wX7_lyingReports_4
  refine jLoop.cnt q (fun c s => ∃ x, s = (29, 1, (if b = 0 then 1 else 0), x, nI c, S) ∧ ∀ i, i < 32 → (bt x i = true ↔ i < c ∧ lrC (jI S 47) (jI S 33) b i)) 0 (by omega) ?_ ⟨0, rfl, bits_0⟩
  rintro c _ hc ⟨x, rfl, hx⟩
  unfold bX7_lyingReports_4 wX7_lyingReports_42 wX7_lyingReports_51 wX7_lyingReports_57
  simp only [shA_1, shA_6, shA_7, shZ_7, shA_8, shZ_8, shA_9, shZ_9, shA_29, shA_33, shZ_33, shR_1_4, shr_1_4, shR_1_5, shr_1_5, shR_1_6, shr_1_6, shR_1_9, shr_1_9, shR_1_11, shr_1_11, shR_6_0, shr_6_0, shR_6_1, shr_6_1, shR_6_2, shr_6_2, shR_29_0, shr_29_0, shR_29_1, shr_29_1, shR_29_2, shr_29_2, shR_29_3, shr_29_3, shR_29_4, shr_29_4, hs, q3, nI_1, ne_eq, not_false_eq_true, not_true_eq_false, reduceCtorEq, Nat.reduceEqDiff, forall_eq, true_and, and_true, true_implies, forall_const, implies_true, List.mem_cons, List.not_mem_nil, or_false, false_or, or_self, if_true, if_false, reduceIte, Nat.reduceAdd, Nat.reduceMul, Nat.reduceLT, false_implies, Decidable.not_not, bI_eq0, bI_eq1, upd_at, updL_at, Nat.succ_ne_zero, Int32.reduceToNatClampNeg, eq_self, i01, i10]
  rw [nI_le' (by omega) (by omega), nI_tn (by omega)]
  refine ⟨fun z => h x (by rw [q4, ← show c = q by omega]; exact hx), fun z => ?_⟩
  obtain ⟨a, m, d, a1, m1, d1, e1, e2, e3, e4, e5, e6⟩ := q5 c (by omega)
  rw [e4, e5, e6, nI_tn (by omega)]
  have yes : lrC (jI S 47) (jI S 33) b c → c < q ∧ ∃ x_1, (29, 1, (if b = 0 then (1 : Int32) else 0), x ||| ((1 : Int32) <<< (nI c &&& 31)), nI (c + 1), S) = (29, 1, (if b = 0 then 1 else 0), x_1, nI (c + 1), S) ∧ ∀ i, i < 32 → (bt x_1 i = true ↔ i < c + 1 ∧ lrC (jI S 47) (jI S 33) b i) := fun hl => ⟨by omega, _, rfl, bits_up (by omega) hx hl⟩
  have no : ¬ lrC (jI S 47) (jI S 33) b c → c < q ∧ ∃ x_1, (29, 1, (if b = 0 then (1 : Int32) else 0), x, nI (c + 1), S) = (29, 1, (if b = 0 then 1 else 0), x_1, nI (c + 1), S) ∧ ∀ i, i < 32 → (bt x_1 i = true ↔ i < c + 1 ∧ lrC (jI S 47) (jI S 33) b i) := fun hl => ⟨by omega, _, rfl, bits_no hx hl⟩
  have eC : lrC (jI S 47) (jI S 33) b c ↔ ((b = 0 ∧ nI d = 1 ∧ jI S 33 m &&& ((1 : Int32) <<< (nI a &&& 31)) = 0) ∨ (b = 0 ∧ ¬ nI d = 1 ∧ jI S 33 m &&& (((1 : Int32) <<< (nI a &&& 31)) ^^^ -1) = 0) ∨ (¬ b = 0 ∧ nI d = 1 ∧ ¬ jI S 33 m &&& ((1 : Int32) <<< (nI a &&& 31)) = jI S 33 m) ∨ (¬ b = 0 ∧ ¬ nI d = 1 ∧ ¬ jI S 33 m &&& (((1 : Int32) <<< (nI a &&& 31)) ^^^ -1) = jI S 33 m)) := by
    unfold lrC; rw [e1, e2, e3, nI_tn (by omega)]
  rw [eC] at yes no
  refine ⟨nI_in2 (by omega) (by omega), nI_in2 (by omega) (by omega), nI_in2 (by omega) (by omega), nI_in2 (by omega) (by omega), ?_⟩
  by_cases hb0 : b = 0
  · simp only [hb0, if_true, false_and, and_false, ne_eq, not_false_eq_true, not_true_eq_false, reduceCtorEq, Nat.reduceEqDiff, forall_eq, true_and, and_true, true_implies, forall_const, implies_true, List.mem_cons, List.not_mem_nil, or_false, false_or, or_self, if_true, if_false, reduceIte, Nat.reduceAdd, Nat.reduceMul, Nat.reduceLT, false_implies, Decidable.not_not, bI_eq0, bI_eq1, upd_at, updL_at, Nat.succ_ne_zero, Int32.reduceToNatClampNeg, eq_self, i01, i10] at yes no ⊢
    refine ⟨fun z2 => ⟨fun z3 => no ?_, fun z3 => yes ?_⟩, fun z2 => ⟨fun z3 => no ?_, fun z3 => yes ?_⟩⟩
    · rw [← ls_b]; rintro (w | w)
      · exact z2 w.1
      · exact z3 w.2
    · rw [← ls_b]; exact Or.inr ⟨z2, z3⟩
    · rw [← ls_a]; rintro (w | w)
      · exact z3 w.2
      · exact w.1 z2
    · rw [← ls_a]; exact Or.inl ⟨z2, z3⟩
  · simp only [hb0, if_false, false_and, and_false, ne_eq, not_false_eq_true, not_true_eq_false, reduceCtorEq, Nat.reduceEqDiff, forall_eq, true_and, and_true, true_implies, forall_const, implies_true, List.mem_cons, List.not_mem_nil, or_false, false_or, or_self, if_true, if_false, reduceIte, Nat.reduceAdd, Nat.reduceMul, Nat.reduceLT, false_implies, Decidable.not_not, bI_eq0, bI_eq1, upd_at, updL_at, Nat.succ_ne_zero, Int32.reduceToNatClampNeg, eq_self, i01, i10] at yes no ⊢
    refine ⟨fun z2 => ⟨fun z3 => no ?_, fun z3 => yes ?_⟩, fun z2 => ⟨fun z3 => no ?_, fun z3 => yes ?_⟩⟩
    · rw [ls_a]; rintro (w | w)
      · exact z2 w.1
      · exact w.2 z3
    · rw [ls_a]; exact Or.inr ⟨z2, z3⟩
    · rw [ls_b]; rintro (w | w)
      · exact w.2 z3
      · exact w.1 z2
    · rw [ls_b]; exact Or.inl ⟨z2, z3⟩
theorem q_liars {S : JS} {Q : Int32 → JS → Prop} {x : Int32} (hI : Inv S) (hq : ∀ r S1, Mdl (wX12_liars 45 x) S r S1 → Q r S1) : wX11_liars 0 x S Q := by
  unfold wX11_liars
  refine sX11_isBit (fun b hb e => ⟨fun _ => ⟨shA_0 hI.1, ?_⟩, fun z => absurd z (by decide)⟩) (fun hx => ⟨fun z => absurd rfl z, fun _ => hq _ _ ⟨hI.1, fun Q' hq' => ?_⟩⟩)
  · subst e
    refine sX11_solve hI (fun S1 hI1 e47 eN sv => ?_)
    have hs1 := hI1.1
    have hr := hI.2.1.1
    have fin : ∀ r, (∀ i, i < 32 → (bt r i = true ↔ i < (jI S1 47 6).toNatClampNeg ∧ lrC (jI S1 47) (jI S1 33) b i)) → Q r S1 := by
      intro r hrr
      refine hq _ _ ⟨hs1, fun Q' hq' => ?_⟩
      unfold wX12_liars
      simp only [shA_45 hs1, ne_eq, not_false_eq_true, not_true_eq_false, reduceCtorEq, Nat.reduceEqDiff, forall_eq, true_and, and_true, true_implies, forall_const, implies_true, List.mem_cons, List.not_mem_nil, or_false, false_or, or_self, if_true, if_false, reduceIte, Nat.reduceAdd, Nat.reduceMul, Nat.reduceLT, false_implies, Decidable.not_not, bI_eq0, bI_eq1, upd_at, updL_at, Nat.succ_ne_zero, Int32.reduceToNatClampNeg, eq_self, i01, i10]
      have hI0 : Inv (uI S1 45 0 0) := hI1.m ((jFr.refl _ _).uI (by decide)) ((jFk.refl _ _ _).sI (by decide))
      generalize eM : uI S1 45 0 0 = M at hI0 ⊢
      have eMI : ∀ h, h ≠ 45 → jI M h = jI S1 h := fun h hh => by rw [← eM]; exact jI_uI_ne hh
      have eMJ : jJ M = jJ S1 := by rw [← eM]; rfl
      have eMN : jN M = jN S1 := by rw [← eM]; rfl
      have hsM := hI0.1
      have hmM := hI0.2.1
      refine sX12_in' 0 1 rfl rfl (fun z1 z2 => ⟨fun _ => ⟨shA_45 hsM, ?_⟩, fun z => absurd z (by decide)⟩) (fun hx => absurd (ex1 hb) hx)
      refine m_lies hI0 (fun S2 hI2 e2 n2 x2 t2 o2 => ⟨shA_45 hI2.1, sX12_fewest hI2.1 hI2.2.1 o2 ?_⟩)
      have hs2 := hI2.1
      have hm2 := hI2.2.1
      have f16 := gF_16 hm2.1
      have hR := hm2.1.1.2.1
      have e2' : jI S2 47 = jI S1 47 := by rw [e2, eMI 47 (by decide)]
      obtain ⟨q, q1, q2, _, q4, q5⟩ := hm2.rep
      unfold wX12_liars_20
      refine jLoop.cnt q (fun c s => ∃ x, s = (45, nI b, nI (gF (jI S2 47)), x, nI c, S2) ∧ ∀ i, i < 32 → (bt x i = true ↔ i < c ∧ lrC (jI S2 47) (jI S1 33) b i)) 0 (by omega) ?_ ⟨0, rfl, bits_0⟩
      rintro c _ hc ⟨x, rfl, hx⟩
      unfold bX12_liars_20 wX12_liars_66 wX12_liars_81 wX12_liars_90
      simp only [shA_45, shA_47, shZ_47, shR_45_2, shr_45_2, shR_45_3, shr_45_3, shR_45_4, shr_45_4, shR_45_5, shr_45_5, shR_45_7, shr_45_7, shR_45_16, shr_45_16, shR_45_18, shr_45_18, shR_45_19, shr_45_19, shR_45_21, shr_45_21, shR_45_22, shr_45_22, shR_45_25, shr_45_25, shR_45_26, shr_45_26, shR_45_28, shr_45_28, shR_45_29, shr_45_29, shR_45_33, shr_45_33, shR_45_34, shr_45_34, shR_45_35, shr_45_35, shR_45_36, shr_45_36, shR_45_37, shr_45_37, shR_45_38, shr_45_38, shR_45_39, shr_45_39, shR_45_40, shr_45_40, shR_45_42, shr_45_42, hs2, q2, ne_eq, not_false_eq_true, not_true_eq_false, reduceCtorEq, Nat.reduceEqDiff, forall_eq, true_and, and_true, true_implies, forall_const, implies_true, List.mem_cons, List.not_mem_nil, or_false, false_or, or_self, if_true, if_false, reduceIte, Nat.reduceAdd, Nat.reduceMul, Nat.reduceLT, false_implies, Decidable.not_not, bI_eq0, bI_eq1, upd_at, updL_at, Nat.succ_ne_zero, Int32.reduceToNatClampNeg, eq_self, i01, i10]
      simp (disch := omega) only [li_0, li_1, li_2, li_3, li_4, li_5, li_6, li_7, li_8, li_9, li_10, li_11, li_12, li_13, li_14, li_15, li_16, li_17, li_18, li_19, li_20, li_21, li_22, li_23, li_24, li_25, li_26, li_27, li_31, li_32, li_45, li_47, li_48, li_50, li_57, li_58, li_59, li_60, li_63, li_64, li_68, li_69, li_70, li_80, li_90, li_91, li_93, li_96, li_97, li_98, li_99, li_100, li_122, li_140, li_141, li_142, li_188, li_200, li_255, li_400, li_511, li_512, li_900, li_1000, li_4320, li_4608, li_5600, li_1000000, nI_add, nI_mul, nI_le', nI_lt', nI_eq', nI_tn, nI_inT, nI_sub, nI_eqm1, nI_ltm, ne_eq, not_false_eq_true, not_true_eq_false, reduceCtorEq, Nat.reduceEqDiff, forall_eq, true_and, and_true, true_implies, forall_const, implies_true, List.mem_cons, List.not_mem_nil, or_false, false_or, or_self, if_true, if_false, reduceIte, Nat.reduceAdd, Nat.reduceMul, Nat.reduceLT, false_implies, Decidable.not_not, bI_eq0, bI_eq1, upd_at, updL_at, Nat.succ_ne_zero, Int32.reduceToNatClampNeg, eq_self, i01, i10]
      refine ⟨fun z => ?_, fun z => ?_⟩
      · have : r = x := b_bits hrr (by rw [← e2', q4, ← show c = q by omega]; exact hx)
        rw [← this]; exact hq' S2 hI2 (by omega)
      · obtain ⟨a, m, d, a1, m1, d1, e3, e4, e5, _⟩ := q5 c (by omega)
        rw [e4]
        refine sX12_likelyIn hs2 hm2 m1 (by omega) t2 o2 (fun v hv => ?_)
        have ev : v = jI S1 33 m := by
          have := sv.lk hr m1
          rw [e2', e47] at hv
          exact hv.uniq this
        simp only [shA_45, shA_47, shZ_47, shR_45_2, shr_45_2, shR_45_3, shr_45_3, shR_45_4, shr_45_4, shR_45_5, shr_45_5, shR_45_7, shr_45_7, shR_45_16, shr_45_16, shR_45_18, shr_45_18, shR_45_19, shr_45_19, shR_45_21, shr_45_21, shR_45_22, shr_45_22, shR_45_25, shr_45_25, shR_45_26, shr_45_26, shR_45_28, shr_45_28, shR_45_29, shr_45_29, shR_45_33, shr_45_33, shR_45_34, shr_45_34, shR_45_35, shr_45_35, shR_45_36, shr_45_36, shR_45_37, shr_45_37, shR_45_38, shr_45_38, shR_45_39, shr_45_39, shR_45_40, shr_45_40, shR_45_42, shr_45_42, hs2, e3, e5, ev, ne_eq, not_false_eq_true, not_true_eq_false, reduceCtorEq, Nat.reduceEqDiff, forall_eq, true_and, and_true, true_implies, forall_const, implies_true, List.mem_cons, List.not_mem_nil, or_false, false_or, or_self, if_true, if_false, reduceIte, Nat.reduceAdd, Nat.reduceMul, Nat.reduceLT, false_implies, Decidable.not_not, bI_eq0, bI_eq1, upd_at, updL_at, Nat.succ_ne_zero, Int32.reduceToNatClampNeg, eq_self, i01, i10]
        simp (disch := omega) only [nI_inT, nI_eq', ne_eq, not_false_eq_true, not_true_eq_false, reduceCtorEq, Nat.reduceEqDiff, forall_eq, true_and, and_true, true_implies, forall_const, implies_true, List.mem_cons, List.not_mem_nil, or_false, false_or, or_self, if_true, if_false, reduceIte, Nat.reduceAdd, Nat.reduceMul, Nat.reduceLT, false_implies, Decidable.not_not, bI_eq0, bI_eq1, upd_at, updL_at, Nat.succ_ne_zero, Int32.reduceToNatClampNeg, eq_self, i01, i10]
        have eC : lrC (jI S2 47) (jI S1 33) b c ↔ ((b = 0 ∧ d = 1 ∧ jI S1 33 m &&& ((1 : Int32) <<< (nI a &&& 31)) = 0) ∨ (b = 0 ∧ ¬ d = 1 ∧ jI S1 33 m &&& (((1 : Int32) <<< (nI a &&& 31)) ^^^ -1) = 0) ∨ (¬ b = 0 ∧ d = 1 ∧ ¬ jI S1 33 m &&& ((1 : Int32) <<< (nI a &&& 31)) = jI S1 33 m) ∨ (¬ b = 0 ∧ ¬ d = 1 ∧ ¬ jI S1 33 m &&& (((1 : Int32) <<< (nI a &&& 31)) ^^^ -1) = jI S1 33 m)) := by
          unfold lrC; rw [e3, e4, e5, nI_tn (by omega), li_1, nI_eq' (by omega) (by omega)]
        have yes : lrC (jI S2 47) (jI S1 33) b c → c < q ∧ ∃ x_1, (45, nI b, nI (gF (jI S2 47)), x ||| ((1 : Int32) <<< (nI c &&& 31)), nI (c + 1), S2) = (45, nI b, nI (gF (jI S2 47)), x_1, nI (c + 1), S2) ∧ ∀ i, i < 32 → (bt x_1 i = true ↔ i < c + 1 ∧ lrC (jI S2 47) (jI S1 33) b i) := fun hl => ⟨by omega, _, rfl, bits_up (by omega) hx hl⟩
        have no : ¬ lrC (jI S2 47) (jI S1 33) b c → c < q ∧ ∃ x_1, (45, nI b, nI (gF (jI S2 47)), x ||| 0, nI (c + 1), S2) = (45, nI b, nI (gF (jI S2 47)), x_1, nI (c + 1), S2) ∧ ∀ i, i < 32 → (bt x_1 i = true ↔ i < c + 1 ∧ lrC (jI S2 47) (jI S1 33) b i) := fun hl => ⟨by omega, _, rfl, by
          have e0 : x ||| 0 = x := by apply b_ext; intro i hi; rw [b_or, b_0, Bool.or_false]
          rw [e0]; exact bits_no hx hl⟩
        rw [eC] at yes no
        refine ⟨fun z2 => ⟨fun z3 => ⟨fun z4 => no ?_, fun z4 => yes ?_⟩, fun z3 => ⟨fun z4 => no ?_, fun z4 => yes ?_⟩⟩, fun z2 => ⟨fun z3 => ⟨fun z4 => no ?_, fun z4 => yes ?_⟩, fun z3 => ⟨fun z4 => no ?_, fun z4 => yes ?_⟩⟩⟩
        · rintro (w | w | w | w)
          · exact z3 w.1
          · exact z3 w.1
          · exact z2 w.2.1
          · exact w.2.2 z4
        · exact Or.inr (Or.inr (Or.inr ⟨z3, z2, z4⟩))
        · rintro (w | w | w | w)
          · exact z2 w.2.1
          · exact z4 w.2.2
          · exact w.1 z3
          · exact w.1 z3
        · exact Or.inr (Or.inl ⟨z3, z2, z4⟩)
        · rintro (w | w | w | w)
          · exact z3 w.1
          · exact z3 w.1
          · exact w.2.2 z4
          · exact w.2.1 z2
        · exact Or.inr (Or.inr (Or.inl ⟨z3, z2, z4⟩))
        · rintro (w | w | w | w)
          · exact z4 w.2.2
          · exact w.2.1 z2
          · exact w.1 z3
          · exact w.1 z3
        · exact Or.inl ⟨z3, z2, z4⟩
    simp only [shA_0, shR_0_0, shr_0_0, shR_0_1, shr_0_1, shR_0_2, shr_0_2, shR_0_3, shr_0_3, shR_0_4, shr_0_4, shR_0_5, shr_0_5, shR_0_6, shr_0_6, shR_0_7, shr_0_7, shR_0_8, shr_0_8, shR_0_9, shr_0_9, hs1, ne_eq, not_false_eq_true, not_true_eq_false, reduceCtorEq, Nat.reduceEqDiff, forall_eq, true_and, and_true, true_implies, forall_const, implies_true, List.mem_cons, List.not_mem_nil, or_false, false_or, or_self, if_true, if_false, reduceIte, Nat.reduceAdd, Nat.reduceMul, Nat.reduceLT, false_implies, Decidable.not_not, bI_eq0, bI_eq1, upd_at, updL_at, Nat.succ_ne_zero, Int32.reduceToNatClampNeg, eq_self, i01, i10]
    rw [li_0, nI_eq' (by omega) (by omega)]
    unfold wX11_liars_16
    refine ⟨fun z => ⟨shA_29 hs1, ?_⟩, fun z => ⟨shA_29 hs1, ?_⟩⟩
    · have := sX7_lyingReports (Q := fun r10 S9 => Q r10 S9) hs1 hI1.2.1 hb (fun r hr => fin r hr)
      rw [if_neg z] at this; exact this
    · have := sX7_lyingReports (Q := fun r10 S9 => Q r10 S9) hs1 hI1.2.1 hb (fun r hr => fin r hr)
      rw [if_pos z] at this; exact this
  · have hs1 := hI.1
    unfold wX12_liars
    simp only [shA_45 hI.1, ne_eq, not_false_eq_true, not_true_eq_false, reduceCtorEq, Nat.reduceEqDiff, forall_eq, true_and, and_true, true_implies, forall_const, implies_true, List.mem_cons, List.not_mem_nil, or_false, false_or, or_self, if_true, if_false, reduceIte, Nat.reduceAdd, Nat.reduceMul, Nat.reduceLT, false_implies, Decidable.not_not, bI_eq0, bI_eq1, upd_at, updL_at, Nat.succ_ne_zero, Int32.reduceToNatClampNeg, eq_self, i01, i10]
    have hI0 : Inv (uI S 45 0 0) := hI.m ((jFr.refl _ _).uI (by decide)) ((jFk.refl _ _ _).sI (by decide))
    exact sX12_in' 0 1 rfl rfl (fun z1 z2 => absurd ⟨z1, z2⟩ hx) (fun _ => ⟨fun z => absurd rfl z, fun _ => hq' _ hI0 (Nat.le_add_right _ _)⟩)
