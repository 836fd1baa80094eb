/-! QUERIES OF BOATS AND DANGER -/
def trip (row : Nat → Int32) (x y z : Int32) : Prop := (0 ≤ x ∧ x < row 0) ∧ (0 ≤ y ∧ y < row 0) ∧ ¬ x = y ∧ 0 ≤ z ∧ z ≤ 58
theorem sX11_isBoat {S : JS} {Q : Int32 → JS → Prop} {x y z : Int32} (hs : jSh S) (hm : MW S) (h1 : ∀ a b n, a < gR (jI S 47) → b < gR (jI S 47) → a ≠ b → n < 59 → x = nI a → y = nI b → z = nI n → Q 1 S) (h0 : ¬ trip (jI S 47) x y z → Q 0 S) : wX11_isBoat 0 x y z S Q := by
  have hR := hm.1.1.2.1
  unfold wX11_isBoat
  simp only [shA_0, shA_1, shR_0_0, shr_0_0, shR_0_1, shr_0_1, shR_0_2, shr_0_2, shR_0_3, shr_0_3, shR_0_4, shr_0_4, shR_0_5, shr_0_5, shR_0_6, shr_0_6, shR_0_7, shr_0_7, shR_0_8, shr_0_8, shR_0_9, shr_0_9, shR_1_4, shr_1_4, shR_1_5, shr_1_5, shR_1_6, shr_1_6, shR_1_9, shr_1_9, shR_1_11, shr_1_11, hs, ne_eq, not_false_eq_true, not_true_eq_false, reduceCtorEq, Nat.reduceEqDiff, forall_eq, true_and, and_true, true_implies, forall_const, implies_true, List.mem_cons, List.not_mem_nil, or_false, false_or, or_self, if_true, if_false, reduceIte, Nat.reduceAdd, Nat.reduceMul, Nat.reduceLT, false_implies, Decidable.not_not, bI_eq0, bI_eq1, upd_at, updL_at, Nat.succ_ne_zero, Int32.reduceToNatClampNeg, eq_self, i01, i10]
  refine sX9_hasRock' hs hm (fun a ha ea => ⟨fun q => absurd q (by decide), fun _ => ?_⟩) (fun hx => ⟨fun _ => h0 (fun w => hx w.1), fun q => absurd rfl q⟩)
  simp only [shA_0, shA_1, shR_0_0, shr_0_0, shR_0_1, shr_0_1, shR_0_2, shr_0_2, shR_0_3, shr_0_3, shR_0_4, shr_0_4, shR_0_5, shr_0_5, shR_0_6, shr_0_6, shR_0_7, shr_0_7, shR_0_8, shr_0_8, shR_0_9, shr_0_9, shR_1_4, shr_1_4, shR_1_5, shr_1_5, shR_1_6, shr_1_6, shR_1_9, shr_1_9, shR_1_11, shr_1_11, hs, ne_eq, not_false_eq_true, not_true_eq_false, reduceCtorEq, Nat.reduceEqDiff, forall_eq, true_and, and_true, true_implies, forall_const, implies_true, List.mem_cons, List.not_mem_nil, or_false, false_or, or_self, if_true, if_false, reduceIte, Nat.reduceAdd, Nat.reduceMul, Nat.reduceLT, false_implies, Decidable.not_not, bI_eq0, bI_eq1, upd_at, updL_at, Nat.succ_ne_zero, Int32.reduceToNatClampNeg, eq_self, i01, i10]
  refine sX9_hasRock' hs hm (fun b hb eb => ⟨fun q => absurd q (by decide), fun _ => ⟨fun q => h0 (fun w => w.2.2.1 q), fun q => ⟨fun q1 => h0 (fun w => ?_), fun q1 => ⟨fun q2 => h0 (fun w => ?_), fun q2 => ?_⟩⟩⟩⟩) (fun hx => ⟨fun _ => h0 (fun w => hx w.2.1), fun q => absurd rfl q⟩)
  · have := w.2.2.2.1; lia
  · have := w.2.2.2.2; lia
  · obtain ⟨n, hn, rfl⟩ := nI_of2 (M := 58) (n := 58) rfl q1 (by lia)
    refine h1 a b n ha hb (fun e => ?_) (by omega) ea eb rfl
    rw [ea, eb, e] at q; exact q rfl
theorem sX12_isTrip {S : JS} {Q : Int32 → JS → Prop} {x y z : Int32} (hs : jSh S) (hm : MW S) (h1 : ∀ a b n, a < gR (jI S 47) → b < gR (jI S 47) → a ≠ b → n < 59 → x = nI a → y = nI b → z = nI n → Q 1 S) (h0 : ¬ trip (jI S 47) x y z → Q 0 S) : wX12_isTrip 45 x y z S Q := by
  unfold wX12_isTrip
  refine ⟨shA_45 hs, sX12_isRock hs hm (fun a ha ea => ⟨fun q => absurd q (by decide), fun _ => ⟨shA_45 hs, ?_⟩⟩) (fun hx => ⟨fun _ => h0 (fun w => hx w.1), fun q => absurd rfl q⟩)⟩
  refine sX12_isRock hs hm (fun b hb eb => ⟨fun q => absurd q (by decide), fun _ => ⟨fun q => h0 (fun w => w.2.2.1 q), fun q => ?_⟩⟩) (fun hx => ⟨fun _ => h0 (fun w => hx w.2.1), fun q => absurd rfl q⟩)
  refine sX12_in' 0 58 rfl rfl (fun q1 q2 => ⟨fun q => absurd q (by decide), fun _ => ?_⟩) (fun hx => ⟨fun _ => h0 (fun w => hx w.2.2.2), fun q => absurd rfl q⟩)
  obtain ⟨n, hn, rfl⟩ := nI_of2 (M := 58) (n := 58) rfl (show ¬ z < 0 by lia) q2
  refine h1 a b n ha hb (fun e => ?_) (by omega) ea eb rfl
  rw [ea, eb, e] at q; exact q rfl
theorem trip_of {row : Nat → Int32} (hr : RowOk row) {a b n : Nat} (ha : a < gR row) (hb : b < gR row) (hab : a ≠ b) (hn : n < 59) : trip row (nI a) (nI b) (nI n) := by
  obtain ⟨R1, R2, R3⟩ := hr.1
  unfold trip
  rw [R3, li_0, li_58]
  simp (disch := omega) only [nI_le', nI_lt', nI_eq']
  omega
theorem Inv.t0 {S : JS} (hI : Inv S) : Inv (uI S 45 0 0) := hI.m ((jFr.refl _ _).uI (by decide)) ((jFk.refl _ _ _).sI (by decide))
theorem q_goes {S : JS} {Q : Int32 → JS → Prop} {x y z : Int32} (hI : Inv S) (hq : ∀ r S1, Mdl (wX12_goes 45 x y z) S r S1 → Q r S1) : wX11_goes 0 x y z S Q := by
  have hs := hI.1
  have hm := hI.2.1
  unfold wX11_goes
  refine ⟨shA_0 hs, sX11_isBoat hs hm (fun a b n ha hb hab hn ea eb en => ⟨fun _ => ?_, fun q => absurd q (by decide)⟩) (fun hx => ⟨fun q => absurd rfl q, fun _ => hq _ _ ⟨hs, fun Q' hq' => ?_⟩⟩)⟩
  · subst ea eb en
    have hR := hm.1.1.2.1
    simp only [shA_0, shA_1, shA_23, shR_0_0, shr_0_0, shR_0_1, shr_0_1, shR_0_2, shr_0_2, shR_0_3, shr_0_3, shR_0_4, shr_0_4, shR_0_5, shr_0_5, shR_0_6, shr_0_6, shR_0_7, shr_0_7, shR_0_8, shr_0_8, shR_0_9, shr_0_9, shR_1_4, shr_1_4, shR_1_5, shr_1_5, shR_1_6, shr_1_6, shR_1_9, shr_1_9, shR_1_11, shr_1_11, shR_23_0, shr_23_0, shR_23_1, shr_23_1, shR_23_2, shr_23_2, hs, ne_eq, not_false_eq_true, not_true_eq_false, reduceCtorEq, Nat.reduceEqDiff, forall_eq, true_and, and_true, true_implies, forall_const, implies_true, List.mem_cons, List.not_mem_nil, or_false, false_or, or_self, if_true, if_false, reduceIte, Nat.reduceAdd, Nat.reduceMul, Nat.reduceLT, false_implies, Decidable.not_not, bI_eq0, bI_eq1, upd_at, updL_at, Nat.succ_ne_zero, Int32.reduceToNatClampNeg, eq_self, i01, i10]
    refine sX1_learnFrom hs hm hI.2.2.1 (by omega) (by omega) (fun S1 f1 B1 _ s1 => ?_)
    have hs1 := f1.sh.mpr hs
    have e47 : jI S1 47 = jI S 47 := f1.I 47 (by decide)
    have hI1 : Inv S1 := hI.c (f1.mono (by decide)) (jFk.of f1 (by decide)) B1 (hI.2.2.2.1.fr f1 (by decide) (by rw [f1.I 0 (by decide)]))
    have fin : ∀ r : Int32, (r = 1 ∧ gGo (jI S 47) n a b) ∨ (r = 0 ∧ ¬ gGo (jI S 47) n a b) → Q r S1 := by
      intro r hr
      refine hq _ _ ⟨hs1, fun Q' hq' => ?_⟩
      unfold wX12_goes
      simp only [shA_45 hs1, jN_uI, jN_uJ, jN_uR, jK_uI, jK_uJ, jK_uR, jZ_uI, jZ_uJ, jZ_uR, jR_uI, jR_uJ, jr_uI, jr_uJ, jI_uJ, jI_uR, jJ_uI, jJ_uR, jI_uI_eq, jI_uI_ne, jJ_uJ_eq, jJ_uJ_ne, jSh_uI, jSh_uJ, jA_uI, jA_uJ, jA_uR, jI_uIf_eq, jI_uIf_ne, jJ_uIf, jR_uIf, jr_uIf, jZ_uIf, jSh_uIf, jA_uIf, ne_eq, not_false_eq_true, not_true_eq_false, reduceCtorEq, Nat.reduceEqDiff, forall_eq, true_and, and_true, true_implies, forall_const, implies_true, List.mem_cons, List.not_mem_nil, or_false, false_or, or_self, if_true, if_false, reduceIte, Nat.reduceAdd, Nat.reduceMul, Nat.reduceLT, false_implies, Decidable.not_not, bI_eq0, bI_eq1, upd_at, updL_at, Nat.succ_ne_zero, Int32.reduceToNatClampNeg, eq_self, i01, i10]
      have hI0 : Inv (uI S1 45 0 0) := hI1.m ((jFr.refl _ _).uI (by decide)) ((jFk.refl _ _ _).sI (by decide))
      generalize eM : uI S1 45 0 0 = M at hI0 ⊢
      have eMI : ∀ h, h ≠ 45 → jI M h = jI S1 h := fun h hh => by rw [← eM]; exact jI_uI_ne hh
      have eMJ : jJ M = jJ S1 := by rw [← eM]; rfl
      have eMN : jN M = jN S1 := by rw [← eM]; rfl
      have hsM := hI0.1
      have hmM := hI0.2.1
      refine sX12_isTrip hsM hmM (fun _ _ _ _ _ _ _ _ _ _ => ⟨fun _ => ⟨shA_45 hsM, ?_⟩, fun q => absurd q (by decide)⟩) (fun hx => absurd (trip_of hmM.1 (by rw [eMI 47 (by decide), e47]; exact ha) (by rw [eMI 47 (by decide), e47]; exact hb) hab hn) hx)
      refine sX12_isBoat hsM hmM (by omega) (fun hg S2 f2 k2 => ⟨fun q => absurd q (by decide), fun _ => ?_⟩) (fun hg S2 f2 k2 => ⟨fun _ => ?_, fun q => absurd rfl q⟩)
      · rw [eMI 47 (by decide), e47] at hg
        rcases hr with ⟨rfl, _⟩ | ⟨_, hg2⟩
        · exact hq' S2 (hI0.m (f2.mono (by decide)) (k2.mono (by decide))) (by rw [f2.N, eMN, f1.N]; omega)
        · exact absurd hg hg2
      · rw [eMI 47 (by decide), e47] at hg
        rcases hr with ⟨_, hg2⟩ | ⟨rfl, _⟩
        · exact absurd hg2 hg
        · exact hq' S2 (hI0.m (f2.mono (by decide)) (k2.mono (by decide))) (by rw [f2.N, eMN, f1.N]; omega)
    simp only [shA_0, shA_23, shR_0_0, shr_0_0, shR_0_1, shr_0_1, shR_0_2, shr_0_2, shR_0_3, shr_0_3, shR_0_4, shr_0_4, shR_0_5, shr_0_5, shR_0_6, shr_0_6, shR_0_7, shr_0_7, shR_0_8, shr_0_8, shR_0_9, shr_0_9, shR_23_0, shr_23_0, shR_23_1, shr_23_1, shR_23_2, shr_23_2, hs1, ne_eq, not_false_eq_true, not_true_eq_false, reduceCtorEq, Nat.reduceEqDiff, forall_eq, true_and, and_true, true_implies, forall_const, implies_true, List.mem_cons, List.not_mem_nil, or_false, false_or, or_self, if_true, if_false, reduceIte, Nat.reduceAdd, Nat.reduceMul, Nat.reduceLT, false_implies, Decidable.not_not, bI_eq0, bI_eq1, upd_at, updL_at, Nat.succ_ne_zero, Int32.reduceToNatClampNeg, eq_self, i01, i10]
    refine sX1_sails hs1 (by omega) (by omega) (sX11_hasBit (by omega) (fun hb2 => ⟨fun q => absurd q (by decide), fun _ => fin 1 (Or.inl ⟨rfl, ?_⟩)⟩) (fun hb2 => ⟨fun _ => fin 0 (Or.inr ⟨rfl, fun hg => hb2 ?_⟩), fun q => absurd rfl q⟩))
    · exact ((s1 b (by omega)).mp hb2).2.2.2.2
    · exact (s1 b (by omega)).mpr ⟨ha, hb, fun e => hab e.symm, hn, hg⟩
  · unfold wX12_goes
    simp only [shA_45 hs, jN_uI, jN_uJ, jN_uR, jK_uI, jK_uJ, jK_uR, jZ_uI, jZ_uJ, jZ_uR, jR_uI, jR_uJ, jr_uI, jr_uJ, jI_uJ, jI_uR, jJ_uI, jJ_uR, jI_uI_eq, jI_uI_ne, jJ_uJ_eq, jJ_uJ_ne, jSh_uI, jSh_uJ, jA_uI, jA_uJ, jA_uR, jI_uIf_eq, jI_uIf_ne, jJ_uIf, jR_uIf, jr_uIf, jZ_uIf, jSh_uIf, jA_uIf, ne_eq, not_false_eq_true, not_true_eq_false, reduceCtorEq, Nat.reduceEqDiff, forall_eq, true_and, and_true, true_implies, forall_const, implies_true, List.mem_cons, List.not_mem_nil, or_false, false_or, or_self, if_true, if_false, reduceIte, Nat.reduceAdd, Nat.reduceMul, Nat.reduceLT, false_implies, Decidable.not_not, bI_eq0, bI_eq1, upd_at, updL_at, Nat.succ_ne_zero, Int32.reduceToNatClampNeg, eq_self, i01, i10]
    have hI0 := hI.t0
    refine sX12_isTrip hI0.1 hI0.2.1 (fun a b n ha hb hab hn ea eb en => ?_) (fun _ => ⟨fun q => absurd rfl q, fun _ => hq' _ hI0 (Nat.le_add_right _ _)⟩)
    exact absurd (by rw [ea, eb, en]; exact trip_of hm.1 ha hb hab hn) hx
theorem q_will {S : JS} {Q : Int32 → JS → Prop} {x y z : Int32} (hI : Inv S) (hq : ∀ r S1, Mdl (wX12_will 45 x y z) S r S1 → Q r S1) : wX11_will 0 x y z S Q := by
  have hs := hI.1
  have hm := hI.2.1
  unfold wX11_will
  refine ⟨shA_0 hs, sX11_isBoat hs hm (fun a b n ha hb hab hn ea eb en => ⟨fun q => absurd q (by decide), fun _ => ?_⟩) (fun hx => ⟨fun _ => hq _ _ ⟨hs, fun Q' hq' => ?_⟩, fun q => absurd rfl q⟩)⟩
  · subst ea eb en
    simp only [shA_0, shA_1, shA_23, shR_0_0, shr_0_0, shR_0_1, shr_0_1, shR_0_2, shr_0_2, shR_0_3, shr_0_3, shR_0_4, shr_0_4, shR_0_5, shr_0_5, shR_0_6, shr_0_6, shR_0_7, shr_0_7, shR_0_8, shr_0_8, shR_0_9, shr_0_9, shR_1_4, shr_1_4, shR_1_5, shr_1_5, shR_1_6, shr_1_6, shR_1_9, shr_1_9, shR_1_11, shr_1_11, shR_23_0, shr_23_0, shR_23_1, shr_23_1, shR_23_2, shr_23_2, hs, ne_eq, not_false_eq_true, not_true_eq_false, reduceCtorEq, Nat.reduceEqDiff, forall_eq, true_and, and_true, true_implies, forall_const, implies_true, List.mem_cons, List.not_mem_nil, or_false, false_or, or_self, if_true, if_false, reduceIte, Nat.reduceAdd, Nat.reduceMul, Nat.reduceLT, false_implies, Decidable.not_not, bI_eq0, bI_eq1, upd_at, updL_at, Nat.succ_ne_zero, Int32.reduceToNatClampNeg, eq_self, i01, i10]
    refine sX1_willFor hs hm ha hb (by omega) (fun S1 f1 => ?_)
    have hs1 := f1.sh.mpr hs
    have e47 : jI S1 47 = jI S 47 := f1.I 47 (by decide)
    have hI1 : Inv S1 := hI.c (f1.mono (by decide)) (jFk.of f1 (by decide)) (hI.2.2.1.fr f1 (by decide)) (hI.2.2.2.1.fr f1 (by decide) (by rw [f1.I 0 (by decide)]))
    refine hq _ _ ⟨hs1, fun Q' hq' => ?_⟩
    unfold wX12_will
    simp only [shA_45 hs1, jN_uI, jN_uJ, jN_uR, jK_uI, jK_uJ, jK_uR, jZ_uI, jZ_uJ, jZ_uR, jR_uI, jR_uJ, jr_uI, jr_uJ, jI_uJ, jI_uR, jJ_uI, jJ_uR, jI_uI_eq, jI_uI_ne, jJ_uJ_eq, jJ_uJ_ne, jSh_uI, jSh_uJ, jA_uI, jA_uJ, jA_uR, jI_uIf_eq, jI_uIf_ne, jJ_uIf, jR_uIf, jr_uIf, jZ_uIf, jSh_uIf, jA_uIf, ne_eq, not_false_eq_true, not_true_eq_false, reduceCtorEq, Nat.reduceEqDiff, forall_eq, true_and, and_true, true_implies, forall_const, implies_true, List.mem_cons, List.not_mem_nil, or_false, false_or, or_self, if_true, if_false, reduceIte, Nat.reduceAdd, Nat.reduceMul, Nat.reduceLT, false_implies, Decidable.not_not, bI_eq0, bI_eq1, upd_at, updL_at, Nat.succ_ne_zero, Int32.reduceToNatClampNeg, eq_self, i01, i10]
    have hI0 : Inv (uI S1 45 0 0) := hI1.m ((jFr.refl _ _).uI (by decide)) ((jFk.refl _ _ _).sI (by decide))
    generalize eM : uI S1 45 0 0 = M at hI0 ⊢
    have eMI : ∀ h, h ≠ 45 → jI M h = jI S1 h := fun h hh => by rw [← eM]; exact jI_uI_ne hh
    have eMJ : jJ M = jJ S1 := by rw [← eM]; rfl
    have eMN : jN M = jN S1 := by rw [← eM]; rfl
    have hsM := hI0.1
    have hmM := hI0.2.1
    refine sX12_isTrip hsM hmM (fun _ _ _ _ _ _ _ _ _ _ => ⟨fun q => absurd q (by decide), fun _ => ⟨shA_45 hsM, ?_⟩⟩) (fun hx => absurd (trip_of hmM.1 (by rw [eMI 47 (by decide), e47]; exact ha) (by rw [eMI 47 (by decide), e47]; exact hb) hab hn) hx)
    refine sX12_tells hsM (by omega) hmM.lf (fun S2 f2 k2 => ?_)
    rw [eMI 47 (by decide), e47]
    exact hq' S2 (hI0.m (f2.mono (by decide)) (k2.mono (by decide))) (by rw [f2.N, eMN, f1.N]; omega)
  · unfold wX12_will
    simp only [shA_45 hs, jN_uI, jN_uJ, jN_uR, jK_uI, jK_uJ, jK_uR, jZ_uI, jZ_uJ, jZ_uR, jR_uI, jR_uJ, jr_uI, jr_uJ, jI_uJ, jI_uR, jJ_uI, jJ_uR, jI_uI_eq, jI_uI_ne, jJ_uJ_eq, jJ_uJ_ne, jSh_uI, jSh_uJ, jA_uI, jA_uJ, jA_uR, jI_uIf_eq, jI_uIf_ne, jJ_uIf, jR_uIf, jr_uIf, jZ_uIf, jSh_uIf, jA_uIf, ne_eq, not_false_eq_true, not_true_eq_false, reduceCtorEq, Nat.reduceEqDiff, forall_eq, true_and, and_true, true_implies, forall_const, implies_true, List.mem_cons, List.not_mem_nil, or_false, false_or, or_self, if_true, if_false, reduceIte, Nat.reduceAdd, Nat.reduceMul, Nat.reduceLT, false_implies, Decidable.not_not, bI_eq0, bI_eq1, upd_at, updL_at, Nat.succ_ne_zero, Int32.reduceToNatClampNeg, eq_self, i01, i10]
    have hI0 := hI.t0
    refine sX12_isTrip hI0.1 hI0.2.1 (fun a b n ha hb hab hn ea eb en => ?_) (fun _ => ⟨fun _ => hq' _ hI0 (Nat.le_add_right _ _), fun q => absurd rfl q⟩)
    exact absurd (by rw [ea, eb, en]; exact trip_of hm.1 ha hb hab hn) hx
theorem rock_of {row : Nat → Int32} (hr : RowOk row) {a : Nat} (ha : a < gR row) : 0 ≤ nI a ∧ nI a < row 0 := by
  obtain ⟨R1, R2, R3⟩ := hr.1
  rw [R3, li_0]
  simp (disch := omega) only [nI_le', nI_lt']
  omega
theorem q_of {S : JS} {Q : Int32 → JS → Prop} {x y z : Int32} (hI : Inv S) (hq : ∀ r S1, Mdl (wX12_of 45 x y z) S r S1 → Q r S1) : wX11_of 0 x y z S Q := by
  have hs := hI.1
  have hm := hI.2.1
  have no : (¬ (0 ≤ x ∧ x < jI S 47 0) ∨ ¬ (0 ≤ y ∧ y ≤ 59) ∨ ¬ (0 ≤ z ∧ z ≤ 1)) → Q (-1) S := by
    intro hx
    refine hq _ _ ⟨hs, fun Q' hq' => ?_⟩
    unfold wX12_of
    simp only [shA_45 hs, jN_uI, jN_uJ, jN_uR, jK_uI, jK_uJ, jK_uR, jZ_uI, jZ_uJ, jZ_uR, jR_uI, jR_uJ, jr_uI, jr_uJ, jI_uJ, jI_uR, jJ_uI, jJ_uR, jI_uI_eq, jI_uI_ne, jJ_uJ_eq, jJ_uJ_ne, jSh_uI, jSh_uJ, jA_uI, jA_uJ, jA_uR, jI_uIf_eq, jI_uIf_ne, jJ_uIf, jR_uIf, jr_uIf, jZ_uIf, jSh_uIf, jA_uIf, ne_eq, not_false_eq_true, not_true_eq_false, reduceCtorEq, Nat.reduceEqDiff, forall_eq, true_and, and_true, true_implies, forall_const, implies_true, List.mem_cons, List.not_mem_nil, or_false, false_or, or_self, if_true, if_false, reduceIte, Nat.reduceAdd, Nat.reduceMul, Nat.reduceLT, false_implies, Decidable.not_not, bI_eq0, bI_eq1, upd_at, updL_at, Nat.succ_ne_zero, Int32.reduceToNatClampNeg, eq_self, i01, i10]
    have hI0 := hI.t0
    have fin := hq' _ hI0 (Nat.le_add_right _ _)
    refine sX12_isRock hI0.1 hI0.2.1 (fun a ha ea => ⟨fun q => absurd q (by decide), fun _ => ?_⟩) (fun _ => ⟨fun _ => fin, fun q => absurd rfl q⟩)
    refine sX12_isNight (fun n hn en => ⟨fun q => absurd q (by decide), fun _ => ?_⟩) (fun _ => ⟨fun _ => fin, fun q => absurd rfl q⟩)
    refine sX12_in' 0 1 rfl rfl (fun z1 z2 => ?_) (fun _ => ⟨fun q => absurd rfl q, fun _ => fin⟩)
    rcases hx with hx | hx | hx
    · exact absurd (by rw [ea]; exact rock_of hm.1 ha) hx
    · exact absurd (en ▸ ex59 hn) hx
    · exact absurd ⟨z1, z2⟩ hx
  unfold wX11_of
  simp only [shA_0, shA_1, shR_0_0, shr_0_0, shR_0_1, shr_0_1, shR_0_2, shr_0_2, shR_0_3, shr_0_3, shR_0_4, shr_0_4, shR_0_5, shr_0_5, shR_0_6, shr_0_6, shR_0_7, shr_0_7, shR_0_8, shr_0_8, shR_0_9, shr_0_9, shR_1_4, shr_1_4, shR_1_5, shr_1_5, shR_1_6, shr_1_6, shR_1_9, shr_1_9, shR_1_11, shr_1_11, hs, ne_eq, not_false_eq_true, not_true_eq_false, reduceCtorEq, Nat.reduceEqDiff, forall_eq, true_and, and_true, true_implies, forall_const, implies_true, List.mem_cons, List.not_mem_nil, or_false, false_or, or_self, if_true, if_false, reduceIte, Nat.reduceAdd, Nat.reduceMul, Nat.reduceLT, false_implies, Decidable.not_not, bI_eq0, bI_eq1, upd_at, updL_at, Nat.succ_ne_zero, Int32.reduceToNatClampNeg, eq_self, i01, i10]
  refine sX9_hasRock' hs hm (fun a ha ea => ⟨fun q => absurd q (by decide), fun _ => ?_⟩) (fun hx => ⟨fun _ => no (Or.inl hx), fun q => absurd rfl q⟩)
  refine sX11_isNight (fun n hn en => ⟨fun q => absurd q (by decide), fun _ => ?_⟩) (fun hx => ⟨fun _ => no (Or.inr (Or.inl hx)), fun q => absurd rfl q⟩)
  refine sX11_isBit (fun b hb eb => ⟨fun _ => ?_, fun q => absurd q (by decide)⟩) (fun hx => ⟨fun q => absurd rfl q, fun _ => no (Or.inr (Or.inr hx))⟩)
  subst ea en eb
  have hR := hm.1.1.2.1
  rw [li_1, nI_eq' (by omega) (by omega)]
  -- the model's road
  have road : ∀ S1 (r : Int32), Inv S1 → jI S1 47 = jI S 47 → jN S1 = jN S → (b = 0 → r = gTell (jI S 47) 0 (nI a) (nI n) (-1)) → (b = 1 → (r = 1 ∧ gWd (jI S 47) a n) ∨ (r = 0 ∧ ¬ gWd (jI S 47) a n)) → Q r S1 := by
    intro S1 r hI1 e47 eN h0 h1
    have hs1 := hI1.1
    refine hq _ _ ⟨hs1, fun Q' hq' => ?_⟩
    unfold wX12_of
    simp only [shA_45 hs1, jN_uI, jN_uJ, jN_uR, jK_uI, jK_uJ, jK_uR, jZ_uI, jZ_uJ, jZ_uR, jR_uI, jR_uJ, jr_uI, jr_uJ, jI_uJ, jI_uR, jJ_uI, jJ_uR, jI_uI_eq, jI_uI_ne, jJ_uJ_eq, jJ_uJ_ne, jSh_uI, jSh_uJ, jA_uI, jA_uJ, jA_uR, jI_uIf_eq, jI_uIf_ne, jJ_uIf, jR_uIf, jr_uIf, jZ_uIf, jSh_uIf, jA_uIf, ne_eq, not_false_eq_true, not_true_eq_false, reduceCtorEq, Nat.reduceEqDiff, forall_eq, true_and, and_true, true_implies, forall_const, implies_true, List.mem_cons, List.not_mem_nil, or_false, false_or, or_self, if_true, if_false, reduceIte, Nat.reduceAdd, Nat.reduceMul, Nat.reduceLT, false_implies, Decidable.not_not, bI_eq0, bI_eq1, upd_at, updL_at, Nat.succ_ne_zero, Int32.reduceToNatClampNeg, eq_self, i01, i10]
    have hI0 : Inv (uI S1 45 0 0) := hI1.m ((jFr.refl _ _).uI (by decide)) ((jFk.refl _ _ _).sI (by decide))
    generalize eM : uI S1 45 0 0 = M at hI0 ⊢
    have eMI : ∀ h, h ≠ 45 → jI M h = jI S1 h := fun h hh => by rw [← eM]; exact jI_uI_ne hh
    have eMJ : jJ M = jJ S1 := by rw [← eM]; rfl
    have eMN : jN M = jN S1 := by rw [← eM]; rfl
    have hsM := hI0.1
    have hmM := hI0.2.1
    have eM47 : jI M 47 = jI S 47 := by rw [eMI 47 (by decide), e47]
    refine sX12_isRock hsM hmM (fun _ _ _ => ⟨fun q => absurd q (by decide), fun _ => ?_⟩) (fun hx => absurd (rock_of hmM.1 (by rw [eM47]; exact ha)) hx)
    refine sX12_isNight (fun _ _ _ => ⟨fun q => absurd q (by decide), fun _ => ?_⟩) (fun hx => absurd (ex59 hn) hx)
    refine sX12_in' 0 1 rfl rfl (fun z1 z2 => ⟨fun _ => ?_, fun q => absurd q (by decide)⟩) (fun hx => absurd (ex1 hb) hx)
    rw [li_0, nI_eq' (by omega) (by omega)]
    refine ⟨fun q => ⟨shA_45 hsM, ?_⟩, fun q => ⟨shA_45 hsM, ?_⟩⟩
    · refine sX12_isWedding hsM hmM hn (fun hw => ⟨fun q => absurd q (by decide), fun _ => ?_⟩) (fun hw => ⟨fun _ => ?_, fun q => absurd rfl q⟩)
      · rw [eM47] at hw
        rcases h1 (by omega) with ⟨rfl, _⟩ | ⟨_, hw2⟩
        · exact hq' M hI0 (by omega)
        · exact absurd hw hw2
      · rw [eM47] at hw
        rcases h1 (by omega) with ⟨_, hw2⟩ | ⟨rfl, _⟩
        · exact absurd hw2 hw
        · exact hq' M hI0 (by omega)
    · refine sX12_tells hsM hn hmM.lf (fun S2 f2 k2 => ?_)
      rw [eM47]
      have := hq' S2 (hI0.m (f2.mono (by decide)) (k2.mono (by decide))) (by rw [f2.N]; omega)
      rw [h0 q] at this; exact this
  refine ⟨fun q => ?_, fun q => ?_⟩
  · simp only [shA_0, shA_1, shA_23, shR_0_0, shr_0_0, shR_0_1, shr_0_1, shR_0_2, shr_0_2, shR_0_3, shr_0_3, shR_0_4, shr_0_4, shR_0_5, shr_0_5, shR_0_6, shr_0_6, shR_0_7, shr_0_7, shR_0_8, shr_0_8, shR_0_9, shr_0_9, shR_1_4, shr_1_4, shR_1_5, shr_1_5, shR_1_6, shr_1_6, shR_1_9, shr_1_9, shR_1_11, shr_1_11, shR_23_0, shr_23_0, shR_23_1, shr_23_1, shR_23_2, shr_23_2, hs, ne_eq, not_false_eq_true, not_true_eq_false, reduceCtorEq, Nat.reduceEqDiff, forall_eq, true_and, and_true, true_implies, forall_const, implies_true, List.mem_cons, List.not_mem_nil, or_false, false_or, or_self, if_true, if_false, reduceIte, Nat.reduceAdd, Nat.reduceMul, Nat.reduceLT, false_implies, Decidable.not_not, bI_eq0, bI_eq1, upd_at, updL_at, Nat.succ_ne_zero, Int32.reduceToNatClampNeg, eq_self, i01, i10]
    refine sX1_learnDanger hs hm hI.2.2.1 ha hn (fun S1 f1 B1 _ s1 => ?_)
    have hs1 := f1.sh.mpr hs
    have hI1 : Inv S1 := hI.c (f1.mono (by decide)) (jFk.of f1 (by decide)) B1 (hI.2.2.2.1.fr f1 (by decide) (by rw [f1.I 0 (by decide)]))
    simp only [shA_0, shA_23, shR_0_0, shr_0_0, shR_0_1, shr_0_1, shR_0_2, shr_0_2, shR_0_3, shr_0_3, shR_0_4, shr_0_4, shR_0_5, shr_0_5, shR_0_6, shr_0_6, shR_0_7, shr_0_7, shR_0_8, shr_0_8, shR_0_9, shr_0_9, shR_23_0, shr_23_0, shR_23_1, shr_23_1, shR_23_2, shr_23_2, hs1, ne_eq, not_false_eq_true, not_true_eq_false, reduceCtorEq, Nat.reduceEqDiff, forall_eq, true_and, and_true, true_implies, forall_const, implies_true, List.mem_cons, List.not_mem_nil, or_false, false_or, or_self, if_true, if_false, reduceIte, Nat.reduceAdd, Nat.reduceMul, Nat.reduceLT, false_implies, Decidable.not_not, bI_eq0, bI_eq1, upd_at, updL_at, Nat.succ_ne_zero, Int32.reduceToNatClampNeg, eq_self, i01, i10]
    refine sX1_danger hs1 (by omega) hn ?_
    exact road S1 _ hI1 (f1.I 47 (by decide)) f1.N (fun _ => s1) (fun e => absurd e q)
  · simp only [shA_0, shA_1, shR_0_0, shr_0_0, shR_0_1, shr_0_1, shR_0_2, shr_0_2, shR_0_3, shr_0_3, shR_0_4, shr_0_4, shR_0_5, shr_0_5, shR_0_6, shr_0_6, shR_0_7, shr_0_7, shR_0_8, shr_0_8, shR_0_9, shr_0_9, shR_1_4, shr_1_4, shR_1_5, shr_1_5, shR_1_6, shr_1_6, shR_1_9, shr_1_9, shR_1_11, shr_1_11, hs, ne_eq, not_false_eq_true, not_true_eq_false, reduceCtorEq, Nat.reduceEqDiff, forall_eq, true_and, and_true, true_implies, forall_const, implies_true, List.mem_cons, List.not_mem_nil, or_false, false_or, or_self, if_true, if_false, reduceIte, Nat.reduceAdd, Nat.reduceMul, Nat.reduceLT, false_implies, Decidable.not_not, bI_eq0, bI_eq1, upd_at, updL_at, Nat.succ_ne_zero, Int32.reduceToNatClampNeg, eq_self, i01, i10]
    refine sX9_isWeddingOn hs hm (by omega) hn (fun hw => ⟨fun q => absurd q (by decide), fun _ => ?_⟩) (fun hw => ⟨fun _ => ?_, fun q => absurd rfl q⟩)
    · exact road S 1 hI rfl rfl (fun e => by omega) (fun _ => Or.inl ⟨rfl, hw⟩)
    · exact road S 0 hI rfl rfl (fun e => by omega) (fun _ => Or.inr ⟨rfl, hw⟩)
