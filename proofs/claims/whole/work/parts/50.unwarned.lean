/-! DANGER, added -/
def gDn (row : Nat → Int32) (n r : Nat) : Nat := (gTell row 0 (nI r) (nI n) (-1)).toNatClampNeg
theorem gDn_eq (row : Nat → Int32) (n r : Nat) : gTell row 0 (nI r) (nI n) (-1) = nI (gDn row n r) ∧ gDn row n r ≤ 99 := by
  obtain ⟨k, k1, k2⟩ := gTell_n row 0 (nI r) (nI n) (-1)
  unfold gDn
  rw [k2, nI_tn (by omega)]; exact ⟨rfl, k1⟩
def gAl (row : Nat → Int32) (n : Nat) : Nat → Nat
  | 0 => 0
  | k + 1 => gAl row n k + gDn row n k
def gUn (row : Nat → Int32) (n b : Nat) : Nat → Nat
  | 0 => 0
  | k + 1 => gUn row n b k + if k = b then 0 else gDn row n k
theorem gUn_hi {row : Nat → Int32} {n b : Nat} : ∀ k, k ≤ b → gUn row n b k = gAl row n k
  | 0, _ => rfl
  | k + 1, h => by rw [gUn, gAl, gUn_hi k (by omega), if_neg (by omega)]
theorem gUn_lo {row : Nat → Int32} {n b : Nat} : ∀ k, b < k → gUn row n b k + gDn row n b = gAl row n k
  | 0, h => absurd h (Nat.not_lt_zero _)
  | k + 1, h => by
    rw [gUn, gAl]
    rcases Nat.lt_or_ge b k with l | l
    · rw [if_neg (by omega)]; have := gUn_lo (row := row) (n := n) k l; omega
    · rw [if_pos (by omega), gUn_hi k (by omega), show b = k by omega]; omega
theorem gAl_b {row : Nat → Int32} {n : Nat} : ∀ k, gAl row n k ≤ 99 * k
  | 0 => Nat.le_refl _
  | k + 1 => by have := gAl_b (row := row) (n := n) k; have := (gDn_eq row n k).2; rw [gAl]; omega
theorem sX1_allDanger {S : JS} {Q : Int32 → JS → Prop} {n : Nat} (hs : jSh S) (hm : MW S) (hn : n < 60) (hk : ∀ r, r < gR (jI S 47) → jI S 28 (n * 9 + r) = gTell (jI S 47) 0 (nI r) (nI n) (-1)) (h : Q (nI (gAl (jI S 47) n (gR (jI S 47)))) S) : wX1_allDanger 23 1 (nI n) S Q := by
  obtain ⟨R1, R2, R3⟩ := hm.1.1
  have e0 : jI S 1 0 = nI (gR (jI S 47)) := hm.2.1.1.trans R3
  unfold wX1_allDanger wX1_allDanger_4
  refine jLoop.cnt (gR (jI S 47)) (fun c q => q = (23, 1, nI n, nI (gAl (jI S 47) n c), nI c, S)) 0 (by omega) ?_ rfl
  rintro c _ hc rfl
  unfold bX1_allDanger_4
  simp only [shA_1, shA_23, shR_1_4, shr_1_4, shR_1_5, shr_1_5, shR_1_6, shr_1_6, shR_1_9, shr_1_9, shR_1_11, shr_1_11, shR_23_0, shr_23_0, shR_23_1, shr_23_1, shR_23_2, shr_23_2, hs, e0, ne_eq, not_false_eq_true, not_true_eq_false, reduceCtorEq, Nat.reduceEqDiff, forall_eq, true_and, and_true, true_implies, forall_const, implies_true, List.mem_cons, List.not_mem_nil, or_false, false_or, or_self, if_true, if_false, reduceIte, Nat.reduceAdd, Nat.reduceMul, Nat.reduceLT, false_implies, Decidable.not_not, bI_eq0, bI_eq1, upd_at, updL_at, Nat.succ_ne_zero, Int32.reduceToNatClampNeg, eq_self, i01, i10]
  rw [nI_le' (by omega) (by omega)]
  refine ⟨fun z => ?_, fun z => sX1_danger hs (by omega) hn ?_⟩
  · rw [show c = gR (jI S 47) by omega]; exact h
  · rw [hk c (by omega), (gDn_eq _ _ _).1, nI_add, nI_1]
    exact ⟨by omega, rfl⟩
theorem sX12_unwarnedIn {S : JS} {Q : Int32 → JS → Prop} {n b : Nat} (hs : jSh S) (hm : MW S) (hn : n < 60) (hb : b < 1000) (h : ∀ S', jFr [45, 58, 59] S S' → jFk 45 [27, 30, 31, 32] S S' → Q (nI (gUn (jI S 47) n b (gR (jI S 47)))) S') : wX12_unwarnedIn 45 (nI n) (nI b) S Q := by
  obtain ⟨R1, R2, R3⟩ := hm.1.1
  unfold wX12_unwarnedIn wX12_unwarnedIn_4
  refine jLoop.cnt (gR (jI S 47)) (fun c q => ∃ S', q = (45, nI n, nI b, nI (gUn (jI S 47) n b c), nI c, S') ∧ jFr [45, 58, 59] S S' ∧ jFk 45 [27, 30, 31, 32] S S') 0 (by omega) ?_ ⟨S, rfl, jFr.refl _ _, jFk.refl _ _ _⟩
  rintro c _ hc ⟨S1, rfl, f1, k1⟩
  have hs1 := f1.sh.mpr hs
  have hm1 : MW S1 := hm.fr f1 (by decide) (by decide)
  unfold bX12_unwarnedIn_4 wX12_unwarnedIn_20
  refine ⟨shA_45 hs1, rk_of hs hm f1 (by decide) ?_⟩
  rw [nI_le' (by omega) (by omega), nI_eq' (by omega) (by omega)]
  refine ⟨fun z => ?_, fun z => ⟨fun z2 => ⟨shA_45 hs1, sX12_tells hs1 hn hm1.lf (fun S2 f2 k2 => ?_)⟩, fun z2 => ?_⟩⟩
  · rw [show c = gR (jI S 47) by omega]; exact h S1 f1 k1
  · rw [f1.I 47 (by decide), (gDn_eq _ _ _).1, nI_add, nI_1]
    intro a ha b2 hb2; subst ha; subst hb2
    exact ⟨by omega, S2, by rw [gUn, if_neg z2], f1.tr f2, k1.tr k2⟩
  · rw [li_0, nI_add, nI_1]
    intro a ha b2 hb2; subst ha; subst hb2
    exact ⟨by omega, S1, by rw [gUn, if_pos z2], f1, k1⟩
/-- unwarned in all nights below k, along a trail -/
def gUt (row : Nat → Int32) (w : Nat → Nat) : Nat → Nat
  | 0 => 0
  | k + 1 => gUt row w k + gUn row k (w k) (gR row)
theorem MW.trail {S : JS} (hm : MW S) : ∃ (t : Nat) (w : Nat → Nat), t < 60 ∧ jI S 47 7 = nI t ∧ jI S 1 10 = nI t ∧ (∀ n, n ≤ t → w n < gR (jI S 47) ∧ jI S 47 (80 + n) = nI (w n) ∧ jI S 11 n = nI (w n)) := by
  obtain ⟨t, t1, t2, t3⟩ := hm.1.2.2.2.2.2.2.1
  have e10 : jI S 1 10 = jI S 47 7 := hm.2.1.2.2.2.2.2
  have etr := hm.2.2.2.2.2.2.1
  refine ⟨t, fun n => (jI S 47 (80 + n)).toNatClampNeg, t1, t2, e10.trans t2, fun n hn => ?_⟩
  obtain ⟨r, r1, r2⟩ := t3 n hn
  have hR := hm.1.1.2.1
  have : (jI S 47 (80 + n)).toNatClampNeg = r := by rw [r2, nI_tn (by omega)]
  simp only [this]
  exact ⟨r1, r2, (etr n (by omega)).trans r2⟩
theorem q_unwarned {S : JS} {Q : Int32 → JS → Prop} (hI : Inv S) (hq : ∀ r S1, Mdl (wX12_unwarned 45) S r S1 → Q r S1) : wX11_unwarned 0 S Q := by
  have hs := hI.1
  have hm := hI.2.1
  have hR := hm.1.1.2.1
  obtain ⟨t, w, t1, t2, t3, hw⟩ := hm.trail
  unfold wX11_unwarned
  simp only [shA_0, shA_1, shA_23, shR_0_0, shr_0_0, shR_0_1, shr_0_1, shR_0_2, shr_0_2, shR_0_3, shr_0_3, shR_0_4, shr_0_4, shR_0_5, shr_0_5, shR_0_6, shr_0_6, shR_0_7, shr_0_7, shR_0_8, shr_0_8, shR_0_9, shr_0_9, shR_1_4, shr_1_4, shR_1_5, shr_1_5, shR_1_6, shr_1_6, shR_1_9, shr_1_9, shR_1_11, shr_1_11, shR_23_0, shr_23_0, shR_23_1, shr_23_1, shR_23_2, shr_23_2, hs, t3, ne_eq, not_false_eq_true, not_true_eq_false, reduceCtorEq, Nat.reduceEqDiff, forall_eq, true_and, and_true, true_implies, forall_const, implies_true, List.mem_cons, List.not_mem_nil, or_false, false_or, or_self, if_true, if_false, reduceIte, Nat.reduceAdd, Nat.reduceMul, Nat.reduceLT, false_implies, Decidable.not_not, bI_eq0, bI_eq1, upd_at, updL_at, Nat.succ_ne_zero, Int32.reduceToNatClampNeg, eq_self, i01, i10]
  refine sX1_learnDangers (a := 0) hs hm hI.2.2.1 (by omega) t1 (fun S1 f1 B1 d1 => ?_)
  have hs1 := f1.sh.mpr hs
  have hm1 : MW S1 := hm.fr f1 (by decide) (by decide)
  have e47 : jI S1 47 = jI S 47 := f1.I 47 (by decide)
  have hI1 : Inv S1 := hI.c (f1.mono (by decide)) (jFk.of f1 (by decide)) B1 (hI.2.2.2.1.fr f1 (by decide) (by rw [f1.I 0 (by decide)]))
  unfold wX11_unwarned_13
  refine jLoop.cnt (t + 1) (fun n q => q = (0, nI (gUt (jI S 47) w n), nI n, S1)) 0 (by omega) ?_ rfl
  rintro n _ hn rfl
  unfold bX11_unwarned_13
  simp only [shA_0, shA_1, shA_11, shZ_11, shA_23, shR_0_0, shr_0_0, shR_0_1, shr_0_1, shR_0_2, shr_0_2, shR_0_3, shr_0_3, shR_0_4, shr_0_4, shR_0_5, shr_0_5, shR_0_6, shr_0_6, shR_0_7, shr_0_7, shR_0_8, shr_0_8, shR_0_9, shr_0_9, shR_1_4, shr_1_4, shR_1_5, shr_1_5, shR_1_6, shr_1_6, shR_1_9, shr_1_9, shR_1_11, shr_1_11, shR_23_0, shr_23_0, shR_23_1, shr_23_1, shR_23_2, shr_23_2, hs1, f1.I 1 (by decide), t3, ne_eq, not_false_eq_true, not_true_eq_false, reduceCtorEq, Nat.reduceEqDiff, forall_eq, true_and, and_true, true_implies, forall_const, implies_true, List.mem_cons, List.not_mem_nil, or_false, false_or, or_self, if_true, if_false, reduceIte, Nat.reduceAdd, Nat.reduceMul, Nat.reduceLT, false_implies, Decidable.not_not, bI_eq0, bI_eq1, upd_at, updL_at, Nat.succ_ne_zero, Int32.reduceToNatClampNeg, eq_self, i01, i10]
  rw [nI_lt' (by omega) (by omega)]
  refine ⟨fun z => ?_, fun z => ?_⟩
  · have : n = t + 1 := by omega
    subst this
    refine hq _ _ ⟨hs1, fun Q' hq' => ?_⟩
    unfold wX12_unwarned
    simp only [shA_45 hs1, jN_uI, jN_uJ, jN_uR, jK_uI, jK_uJ, jK_uR, jZ_uI, jZ_uJ, jZ_uR, jR_uI, jR_uJ, jr_uI, jr_uJ, jI_uJ, jI_uR, jJ_uI, jJ_uR, jI_uI_eq, jI_uI_ne, jJ_uJ_eq, jJ_uJ_ne, jSh_uI, jSh_uJ, jA_uI, jA_uJ, jA_uR, jI_uIf_eq, jI_uIf_ne, jJ_uIf, jR_uIf, jr_uIf, jZ_uIf, jSh_uIf, jA_uIf, ne_eq, not_false_eq_true, not_true_eq_false, reduceCtorEq, Nat.reduceEqDiff, forall_eq, true_and, and_true, true_implies, forall_const, implies_true, List.mem_cons, List.not_mem_nil, or_false, false_or, or_self, if_true, if_false, reduceIte, Nat.reduceAdd, Nat.reduceMul, Nat.reduceLT, false_implies, Decidable.not_not, bI_eq0, bI_eq1, upd_at, updL_at, Nat.succ_ne_zero, Int32.reduceToNatClampNeg, eq_self, i01, i10]
    have hI0 : Inv (uI S1 45 0 0) := hI1.m ((jFr.refl _ _).uI (by decide)) ((jFk.refl _ _ _).sI (by decide))
    generalize eM : uI S1 45 0 0 = M at hI0 ⊢
    have eMI : ∀ h, h ≠ 45 → jI M h = jI S1 h := fun h hh => by rw [← eM]; exact jI_uI_ne hh
    have eMJ : jJ M = jJ S1 := by rw [← eM]; rfl
    have eMN : jN M = jN S1 := by rw [← eM]; rfl
    have hsM := hI0.1
    have hmM := hI0.2.1
    have eM47 : jI M 47 = jI S 47 := by rw [eMI 47 (by decide), e47]
    unfold wX12_unwarned_7
    refine jLoop.cnt (t + 1) (fun n q => ∃ S', q = (45, nI (gUt (jI S 47) w n), nI n, S') ∧ jFr [45, 58, 59] M S' ∧ jFk 45 [27, 30, 31, 32] M S') 0 (by omega) ?_ ⟨M, rfl, jFr.refl _ _, jFk.refl _ _ _⟩
    rintro n _ hn ⟨S2, rfl, f2, k2⟩
    have hs2 := f2.sh.mpr hsM
    have hm2 : MW S2 := hmM.fr f2 (by decide) (by decide)
    have e2 : jI S2 47 = jI S 47 := by rw [f2.I 47 (by decide), eM47]
    unfold bX12_unwarned_7
    simp only [shA_45, shA_47, shZ_47, shR_45_2, shr_45_2, shR_45_3, shr_45_3, shR_45_4, shr_45_4, shR_45_5, shr_45_5, shR_45_7, shr_45_7, shR_45_16, shr_45_16, shR_45_18, shr_45_18, shR_45_19, shr_45_19, shR_45_21, shr_45_21, shR_45_22, shr_45_22, shR_45_25, shr_45_25, shR_45_26, shr_45_26, shR_45_28, shr_45_28, shR_45_29, shr_45_29, shR_45_33, shr_45_33, shR_45_34, shr_45_34, shR_45_35, shr_45_35, shR_45_36, shr_45_36, shR_45_37, shr_45_37, shR_45_38, shr_45_38, shR_45_39, shr_45_39, shR_45_40, shr_45_40, shR_45_42, shr_45_42, hs2, e2, t2, ne_eq, not_false_eq_true, not_true_eq_false, reduceCtorEq, Nat.reduceEqDiff, forall_eq, true_and, and_true, true_implies, forall_const, implies_true, List.mem_cons, List.not_mem_nil, or_false, false_or, or_self, if_true, if_false, reduceIte, Nat.reduceAdd, Nat.reduceMul, Nat.reduceLT, false_implies, Decidable.not_not, bI_eq0, bI_eq1, upd_at, updL_at, Nat.succ_ne_zero, Int32.reduceToNatClampNeg, eq_self, i01, i10]
    simp (disch := omega) only [li_0, li_1, li_2, li_3, li_4, li_5, li_6, li_7, li_8, li_9, li_10, li_11, li_12, li_13, li_14, li_15, li_16, li_17, li_18, li_19, li_20, li_21, li_22, li_23, li_24, li_25, li_26, li_27, li_31, li_32, li_45, li_47, li_48, li_50, li_57, li_58, li_59, li_60, li_63, li_64, li_68, li_69, li_70, li_80, li_90, li_91, li_93, li_96, li_97, li_98, li_99, li_100, li_122, li_140, li_141, li_142, li_188, li_200, li_255, li_400, li_511, li_512, li_900, li_1000, li_4320, li_4608, li_5600, li_1000000, nI_add, nI_mul, nI_le', nI_lt', nI_eq', nI_tn, nI_inT, nI_sub, nI_eqm1, nI_ltm, ne_eq, not_false_eq_true, not_true_eq_false, reduceCtorEq, Nat.reduceEqDiff, forall_eq, true_and, and_true, true_implies, forall_const, implies_true, List.mem_cons, List.not_mem_nil, or_false, false_or, or_self, if_true, if_false, reduceIte, Nat.reduceAdd, Nat.reduceMul, Nat.reduceLT, false_implies, Decidable.not_not, bI_eq0, bI_eq1, upd_at, updL_at, Nat.succ_ne_zero, Int32.reduceToNatClampNeg, eq_self, i01, i10]
    refine ⟨fun z => ?_, fun z => ?_⟩
    · rw [show n = t + 1 by omega]
      exact hq' S2 (hI0.m (f2.mono (by decide)) (k2.mono (by decide))) (by rw [f2.N, eMN, f1.N]; omega)
    · obtain ⟨w1, w2, w3⟩ := hw n (by omega)
      rw [w2]
      refine sX12_unwarnedIn hs2 hm2 (by omega) (by omega) (fun S3 f3 k3 => ?_)
      rw [e2, nI_add]
      exact ⟨by omega, S3, rfl, f2.tr f3, k2.tr k3⟩
  · obtain ⟨w1, w2, w3⟩ := hw n (by omega)
    refine sX1_allDanger hs1 hm1 (by omega) (fun r hr => d1 n r (by omega) (by omega) hr) ?_
    simp only [shA_0, shA_1, shA_11, shZ_11, shA_23, shR_0_0, shr_0_0, shR_0_1, shr_0_1, shR_0_2, shr_0_2, shR_0_3, shr_0_3, shR_0_4, shr_0_4, shR_0_5, shr_0_5, shR_0_6, shr_0_6, shR_0_7, shr_0_7, shR_0_8, shr_0_8, shR_0_9, shr_0_9, shR_1_4, shr_1_4, shR_1_5, shr_1_5, shR_1_6, shr_1_6, shR_1_9, shr_1_9, shR_1_11, shr_1_11, shR_23_0, shr_23_0, shR_23_1, shr_23_1, shR_23_2, shr_23_2, hs1, f1.I 11 (by decide), ne_eq, not_false_eq_true, not_true_eq_false, reduceCtorEq, Nat.reduceEqDiff, forall_eq, true_and, and_true, true_implies, forall_const, implies_true, List.mem_cons, List.not_mem_nil, or_false, false_or, or_self, if_true, if_false, reduceIte, Nat.reduceAdd, Nat.reduceMul, Nat.reduceLT, false_implies, Decidable.not_not, bI_eq0, bI_eq1, upd_at, updL_at, Nat.succ_ne_zero, Int32.reduceToNatClampNeg, eq_self, i01, i10]
    rw [nI_tn (by omega), w3, e47]
    refine ⟨nI_in2 (by omega) (by omega), sX1_danger hs1 (by omega) (by omega) ?_⟩
    have := gUn_lo (row := jI S 47) (n := n) (gR (jI S 47)) w1
    rw [d1 n (w n) (by omega) (by omega) (by rw [e47]; exact w1), e47, (gDn_eq _ _ _).1, nI_sub (by omega), nI_add, nI_1]
    refine ⟨by omega, ?_⟩
    rw [gUt, show gAl (jI S 47) n (gR (jI S 47)) - gDn (jI S 47) n (w n) = gUn (jI S 47) n (w n) (gR (jI S 47)) by omega]
/-! REACH -/
def gRs (row : Nat → Int32) (n a : Nat) : Nat → Nat → Prop
  | 0, i => i = a
  | k + 1, i => ∃ r, r < gR row ∧ gRs row n a k r ∧ gSt row (n + k) r i
theorem gRs_lt {row : Nat → Int32} {n a : Nat} (ha : a < gR row) : ∀ {k i : Nat}, gRs row n a k i → i < gR row
  | 0, _, h => h ▸ ha
  | _ + 1, _, ⟨_, h1, _, h2⟩ => gSt_lt h2 h1
def rcP (row : Nat → Int32) (n a b : Nat) (r : Int32) : Prop := (∃ k, IsLow (fun k => gRs row n a k b) k ∧ n + k ≤ 59 ∧ r = nI (n + k)) ∨ ((∀ k, n + k ≤ 59 → ¬ gRs row n a k b) ∧ r = -1)
theorem rcP.uniq {row : Nat → Int32} {n a b : Nat} {r r' : Int32} (h : rcP row n a b r) (h' : rcP row n a b r') : r = r' := by
  rcases h with ⟨k, k1, k2, k3⟩ | ⟨k1, k2⟩ <;> rcases h' with ⟨l, l1, l2, l3⟩ | ⟨l1, l2⟩
  · rw [k3, l3, k1.uniq l1]
  · exact absurd k1.1 (l1 k k2)
  · exact absurd l1.1 (k1 l l2)
  · rw [k2, l2]
theorem sX1_stepsOfAll {S : JS} {Q : Int32 → JS → Prop} {n : Nat} {x : Int32} {P : Nat → Prop} (hs : jSh S) (hm : MW S) (hn : n < 60) (hk : ∀ r, r < 9 → slOk (jI S 47) n r (jI S 27 (n * 9 + r))) (hP : ∀ i, P i → i < gR (jI S 47)) (hx : ∀ i, i < 32 → (bt x i = true ↔ P i)) (h : ∀ y, (∀ i, i < 32 → (bt y i = true ↔ ∃ r, r < gR (jI S 47) ∧ P r ∧ gSt (jI S 47) n r i)) → Q y S) : wX1_stepsOfAll 23 x (nI n) S Q := by
  obtain ⟨R1, R2, R3⟩ := hm.1.1
  unfold wX1_stepsOfAll wX1_stepsOfAll_4
  refine jLoop.cnt 9 (fun c q => ∃ y, q = (23, x, nI n, y, nI c, S) ∧ ∀ i, i < 32 → (bt y i = true ↔ ∃ r, r < c ∧ P r ∧ gSt (jI S 47) n r i)) 0 (by omega) ?_ ⟨0, rfl, fun i hi => by rw [b_0]; exact ⟨fun z => by (cases z), fun ⟨r, z, _⟩ => absurd z (Nat.not_lt_zero _)⟩⟩
  rintro c _ hc ⟨y, rfl, hy⟩
  unfold bX1_stepsOfAll_4 wX1_stepsOfAll_18
  simp only
  rw [li_9, nI_le' (by omega) (by omega)]
  refine ⟨fun z => h y (fun i hi => (hy i hi).trans ⟨fun ⟨r, r1, r2, r3⟩ => ⟨r, hP r r2, r2, r3⟩, fun ⟨r, r1, r2, r3⟩ => ⟨r, by omega, r2, r3⟩⟩), fun z => ?_⟩
  refine sX11_hasBit (by omega) (fun hb => ⟨fun q => absurd q (by decide), fun _ => ⟨shA_23 hs, sX1_steps hs (by omega) hn (hk c (by omega)) (fun v hv => ?_)⟩⟩) (fun hb => ⟨fun _ => ?_, fun q => absurd rfl q⟩)
  · have hc1 := (hx c (by omega)).mp hb
    rw [nI_1]
    intro a ha b hb2; subst ha; subst hb2
    refine ⟨by omega, _, rfl, fun i hi => ?_⟩
    rw [b_or, Bool.or_eq_true, hy i hi, hv i hi]
    constructor
    · rintro (⟨r, r1, r2⟩ | w)
      · exact ⟨r, by omega, r2⟩
      · exact ⟨c, by omega, hc1, w⟩
    · rintro ⟨r, r1, r2, r3⟩
      rcases Nat.lt_or_ge r c with l | l
      · exact Or.inl ⟨r, l, r2, r3⟩
      · have : r = c := by omega
        subst this; exact Or.inr r3
  · rw [nI_1]
    intro a ha; subst ha
    refine ⟨by omega, _, rfl, fun i hi => (hy i hi).trans ⟨fun ⟨r, r1, r2⟩ => ⟨r, by omega, r2⟩, fun ⟨r, r1, r2, r3⟩ => ⟨r, ?_, r2, r3⟩⟩⟩
    rcases Nat.lt_or_ge r c with l | l
    · exact l
    · have : r = c := by omega
      subst this; exact absurd ((hx r (by omega)).mpr r2) hb
