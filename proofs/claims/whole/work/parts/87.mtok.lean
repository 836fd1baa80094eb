/-! THE MODEL'S READER: its small steps -/
theorem li_28 : (28 : Int32) = nI 28 := rfl
theorem li_29 : (29 : Int32) = nI 29 := rfl
theorem li_30 : (30 : Int32) = nI 30 := rfl
def wdT : List (Int64 × Nat) := [(605291, 1), (655, 2), (14982420, 3), (20594253, 4), (441828, 5), (6194, 6), (14836, 14), (498, 15), (1476, 16), (135732402, 17), (763276, 18), (67155, 19), (294, 20)]
def mkT : List (Int32 × Nat) := [(43, 7), (45, 8), (42, 9), (47, 10), (60, 11), (62, 12), (61, 13), (59, 21), (40, 22), (41, 23), (91, 24), (93, 25)]
/-- how the model sees a token: its sort, its worth -/
def LxOk (e : Nat) (sg vl so : Nat → Nat) (wo : Nat → Int64) : Prop := ∀ i, i ≤ e → so i ≤ 3 ∧ (so i = 0 ↔ sg i = 26) ∧ (∀ p ∈ wdT, (so i = 1 ∧ wo i = p.1) ↔ sg i = p.2) ∧ (∀ p ∈ mkT, (so i = 3 ∧ wo i = p.1.toInt64) ↔ sg i = p.2) ∧ ((so i = 2 ∧ wo i ≤ 1000) ↔ sg i = 0) ∧ (sg i = 0 → wo i = lN (vl i))
/-- the model at token i -/
def TM (t : Nat) (A B so bb : Nat → Nat) (wo : Nat → Int64) (M : JS) (i : Nat) : Prop := jI M 45 8 = nI t ∧ jI M 45 9 = nI (A i) ∧ jI M 45 10 = nI (B i) ∧ jI M 45 11 = nI (so i) ∧ jJ M 45 12 = wo i ∧ (∀ j, j < t → jI M 50 j = nI (bb j)) ∧ jI M 45 13 = -1
def NxOk (t e : Nat) (A B so bb : Nat → Nat) (wo : Nat → Int64) : Prop := ∀ (M : JS) (i : Nat) (Q : JS → Prop), jSh M → TM t A B so bb wo M i → i < e → (∀ M', jFr [45] M M' → jFk 45 [9, 10, 11, 12] M M' → TM t A B so bb wo M' (i + 1) → Q M') → wX12_next 45 M Q
def Cx (t e : Nat) (A B sg vl so bb : Nat → Nat) (wo : Nat → Int64) : Prop := TkOk t e A sg vl ∧ LxOk e sg vl so wo ∧ NxOk t e A B so bb wo
def PA (M : JS) (b : Nat) : Prop := ∀ k, k < b → (∃ m, m < 400 ∧ jI M 55 k = nI m) ∧ ∃ p, p < 1000 ∧ jI M 54 k = nI p
/-- the model reads on: at token i, l leaves, n words of code, b on the pile, o brackets -/
def MT (t e : Nat) (A B so bb : Nat → Nat) (wo : Nat → Int64) (M : JS) (i l n b o : Nat) : Prop := (jSh M ∧ CW M) ∧ TM t A B so bb wo M i ∧ (jI M 45 14 = 0 ∧ jI M 45 17 = nI n ∧ jI M 45 20 = nI l ∧ jI M 45 23 = nI b ∧ jI M 45 24 = nI o) ∧ (i ≤ e ∧ n + b ≤ A i ∧ l ≤ 50 ∧ o ≤ 8) ∧ PA M b
/-- the model has met a fault at place p -/
def MB (M : JS) (p : Nat) : Prop := (jSh M ∧ CW M) ∧ jI M 45 14 = 1 ∧ jI M 45 13 = nI p ∧ ∃ n b, jI M 45 17 = nI n ∧ jI M 45 23 = nI b ∧ n + b ≤ 400 ∧ PA M b
/-- what is left of the model by a reading: code below n, pile below b -/
def MF (M M' : JS) (n b : Nat) : Prop := jFr [45, 52, 53, 54, 55] M M' ∧ jFk 45 [9, 10, 11, 12, 13, 14, 17, 20, 23, 24] M M' ∧ (∀ k, k < n → jI M' 52 k = jI M 52 k ∧ jI M' 53 k = jI M 53 k) ∧ ∀ k, k < b → jI M' 54 k = jI M 54 k ∧ jI M' 55 k = jI M 55 k
section MTOK
variable {t e i l n b o : Nat} {A B sg vl so bb : Nat → Nat} {wo : Nat → Int64} {M M' M2 : JS}
theorem MF.refl : MF M M n b := ⟨jFr.refl _ _, jFk.refl _ _ _, fun _ _ => ⟨rfl, rfl⟩, fun _ _ => ⟨rfl, rfl⟩⟩
theorem MF.tr {n1 b1 : Nat} (f : MF M M' n b) (g : MF M' M2 n1 b1) (h : n ≤ n1) (h2 : b ≤ b1) : MF M M2 n b := ⟨f.1.tr g.1, f.2.1.tr g.2.1, fun k hk => ⟨(g.2.2.1 k (by omega)).1.trans (f.2.2.1 k hk).1, (g.2.2.1 k (by omega)).2.trans (f.2.2.1 k hk).2⟩, fun k hk => ⟨(g.2.2.2 k (by omega)).1.trans (f.2.2.2 k hk).1, (g.2.2.2 k (by omega)).2.trans (f.2.2.2 k hk).2⟩⟩
theorem MF.of45 (f : jFr [45] M M') (k : jFk 45 [9, 10, 11, 12, 13, 14, 17, 20, 23, 24] M M') : MF M M' n b := ⟨f.mono (by decide), k, fun _ _ => by rw [f.I 52 (by decide), f.I 53 (by decide)]; exact ⟨rfl, rfl⟩, fun _ _ => by rw [f.I 54 (by decide), f.I 55 (by decide)]; exact ⟨rfl, rfl⟩⟩
theorem MF.sh (f : MF M M' n b) (h : jSh M ∧ CW M) : jSh M' ∧ CW M' := ⟨f.1.sh.mpr h.1, h.2.fr f.1 (by decide)⟩
theorem sX12_isWord {Q : Int32 → JS → Prop} {w : Int64} {s : Nat} (hx : Cx t e A B sg vl so bb wo) (h : MT t e A B so bb wo M i l n b o) (hw : (w, s) ∈ wdT) (h1 : sg i = s → Q 1 M) (h0 : ¬ sg i = s → Q 0 M) : wX12_isWord 45 w M Q := by
  obtain ⟨⟨hs, _⟩, ⟨_, _, _, h11, h12, _⟩, _, ⟨hi, _⟩, _⟩ := h
  obtain ⟨l1, _, l3, _⟩ := hx.2.1 i hi
  have k := l3 _ hw
  unfold wX12_isWord
  rw [h11, h12, li_1, nI_eq' (by omega) (by omega), lg_cmp_eq]
  refine ⟨shA_45 hs, fun z => h0 (fun y => z (k.mpr y).1), fun z => ⟨fun z2 => h0 (fun y => z2 (k.mpr y).2), fun z2 => h1 (k.mp ⟨z, z2⟩)⟩⟩
theorem sX12_isSign {Q : Int32 → JS → Prop} {w : Int32} {s : Nat} (hx : Cx t e A B sg vl so bb wo) (h : MT t e A B so bb wo M i l n b o) (hw : (w, s) ∈ mkT) (h1 : sg i = s → Q 1 M) (h0 : ¬ sg i = s → Q 0 M) : wX12_isSign 45 w M Q := by
  obtain ⟨⟨hs, _⟩, ⟨_, _, _, h11, h12, _⟩, _, ⟨hi, _⟩, _⟩ := h
  obtain ⟨l1, _, _, l3, _⟩ := hx.2.1 i hi
  have k := l3 _ hw
  unfold wX12_isSign
  rw [h11, h12, li_3, nI_eq' (by omega) (by omega), lg_cmp_eq]
  refine ⟨shA_45 hs, fun z => h0 (fun y => z (k.mpr y).1), fun z => ⟨fun z2 => h0 (fun y => z2 (k.mpr y).2), fun z2 => h1 (k.mp ⟨z, z2⟩)⟩⟩
theorem MT.next {Q : JS → Prop} (hx : Cx t e A B sg vl so bb wo) (h : MT t e A B so bb wo M i l n b o) (hi : sg i ≠ 26) (hq : ∀ M', jFr [45] M M' → jFk 45 [9, 10, 11, 12] M M' → MT t e A B so bb wo M' (i + 1) l n b o → A i < A (i + 1) → Q M') : wX12_next 45 M Q := by
  obtain ⟨⟨hs, hc⟩, hT, ⟨g1, g2, g3, g4, g5⟩, ⟨h1, h2, h3, h4⟩, hp⟩ := h
  have hlt := hx.1.lt h1 hi
  have hA := (hx.1.2.1 i hlt).1
  refine hx.2.2 M i Q hs hT hlt (fun M1 f k T1 => hq M1 f k ⟨⟨f.sh.mpr hs, hc.fr f (by decide)⟩, T1, ⟨?_, ?_, ?_, ?_, ?_⟩, ⟨by omega, by omega, h3, h4⟩, ?_⟩ hA)
  · rw [k.I 14 (by decide)]; exact g1
  · rw [k.I 17 (by decide)]; exact g2
  · rw [k.I 20 (by decide)]; exact g3
  · rw [k.I 23 (by decide)]; exact g4
  · rw [k.I 24 (by decide)]; exact g5
  · intro j hj; rw [f.I 55 (by decide), f.I 54 (by decide)]; exact hp j hj
theorem MT.mustN {Q : JS → Prop} {x : Int32} (h : MT t e A B so bb wo M i l n b o) (hx1 : ¬ x = 0) (hq : wX12_next 45 M Q) : wX12_must 45 x M Q := by
  obtain ⟨⟨hs, hc⟩, hT, ⟨g1, g2, g3, g4, g5⟩, _, hp⟩ := h
  unfold wX12_must wX12_must_12
  rw [g1]
  exact ⟨shA_45 hs, fun z => absurd rfl z, fun _ => ⟨fun _ => ⟨shA_45 hs, fun z => absurd rfl z, fun _ => hq⟩, fun z => absurd z hx1⟩⟩
theorem MT.mustB {Q : JS → Prop} (hx : Cx t e A B sg vl so bb wo) (h : MT t e A B so bb wo M i l n b o) (hq : ∀ M', MF M M' n b → MB M' (A i) → Q M') : wX12_must 45 0 M Q := by
  obtain ⟨⟨hs, hc⟩, hT, ⟨g1, g2, g3, g4, g5⟩, ⟨h1, h2, h3, h4⟩, hp⟩ := h
  have hA := (hx.1.2.2.1 i h1).2
  have ht := hx.1.1.2.1
  obtain ⟨_, h9, _⟩ := hT
  unfold wX12_must wX12_must_12
  rw [g1]
  simp only [shA_45 hs, jN_uI, jN_uJ, jN_uR, jK_uI, jK_uJ, jK_uR, jZ_uI, jZ_uJ, jZ_uR, jR_uI, jR_uJ, jr_uI, jr_uJ, jI_uJ, jI_uR, jJ_uI, jJ_uR, jI_uI_eq, jI_uI_ne, jJ_uJ_eq, jJ_uJ_ne, jSh_uI, jSh_uJ, jA_uI, jA_uJ, jA_uR, jI_uIf_eq, jI_uIf_ne, jJ_uIf, jR_uIf, jr_uIf, jZ_uIf, jSh_uIf, jA_uIf, ne_eq, not_false_eq_true, not_true_eq_false, reduceCtorEq, Nat.reduceEqDiff, forall_eq, true_and, and_true, true_implies, forall_const, implies_true, List.mem_cons, List.not_mem_nil, or_false, false_or, or_self, if_true, if_false, reduceIte, Nat.reduceAdd, Nat.reduceMul, Nat.reduceLT, false_implies, Decidable.not_not, bI_eq0, bI_eq1, upd_at, updL_at, Nat.succ_ne_zero, Int32.reduceToNatClampNeg, eq_self, i01, i10]
  rw [h9]
  have f : jFr [45] M (uI (uI M 45 14 1) 45 13 (nI (A i))) := ((jFr.refl _ _).uI (by decide)).uI (by decide)
  refine hq _ (MF.of45 f (((jFk.refl _ _ _).sI (by decide)).sI (by decide))) ⟨⟨f.sh.mpr hs, hc.fr f (by decide)⟩, by simp only [jN_uI, jN_uJ, jN_uR, jK_uI, jK_uJ, jK_uR, jZ_uI, jZ_uJ, jZ_uR, jR_uI, jR_uJ, jr_uI, jr_uJ, jI_uJ, jI_uR, jJ_uI, jJ_uR, jI_uI_eq, jI_uI_ne, jJ_uJ_eq, jJ_uJ_ne, jSh_uI, jSh_uJ, jA_uI, jA_uJ, jA_uR, jI_uIf_eq, jI_uIf_ne, jJ_uIf, jR_uIf, jr_uIf, jZ_uIf, jSh_uIf, jA_uIf, ne_eq, not_false_eq_true, not_true_eq_false, reduceCtorEq, Nat.reduceEqDiff, forall_eq, true_and, and_true, true_implies, forall_const, implies_true, List.mem_cons, List.not_mem_nil, or_false, false_or, or_self, if_true, if_false, reduceIte, Nat.reduceAdd, Nat.reduceMul, Nat.reduceLT, false_implies, Decidable.not_not, bI_eq0, bI_eq1, upd_at, updL_at, Nat.succ_ne_zero, Int32.reduceToNatClampNeg, eq_self, i01, i10], by simp only [jN_uI, jN_uJ, jN_uR, jK_uI, jK_uJ, jK_uR, jZ_uI, jZ_uJ, jZ_uR, jR_uI, jR_uJ, jr_uI, jr_uJ, jI_uJ, jI_uR, jJ_uI, jJ_uR, jI_uI_eq, jI_uI_ne, jJ_uJ_eq, jJ_uJ_ne, jSh_uI, jSh_uJ, jA_uI, jA_uJ, jA_uR, jI_uIf_eq, jI_uIf_ne, jJ_uIf, jR_uIf, jr_uIf, jZ_uIf, jSh_uIf, jA_uIf, ne_eq, not_false_eq_true, not_true_eq_false, reduceCtorEq, Nat.reduceEqDiff, forall_eq, true_and, and_true, true_implies, forall_const, implies_true, List.mem_cons, List.not_mem_nil, or_false, false_or, or_self, if_true, if_false, reduceIte, Nat.reduceAdd, Nat.reduceMul, Nat.reduceLT, false_implies, Decidable.not_not, bI_eq0, bI_eq1, upd_at, updL_at, Nat.succ_ne_zero, Int32.reduceToNatClampNeg, eq_self, i01, i10], n, b, by simp only [jN_uI, jN_uJ, jN_uR, jK_uI, jK_uJ, jK_uR, jZ_uI, jZ_uJ, jZ_uR, jR_uI, jR_uJ, jr_uI, jr_uJ, jI_uJ, jI_uR, jJ_uI, jJ_uR, jI_uI_eq, jI_uI_ne, jJ_uJ_eq, jJ_uJ_ne, jSh_uI, jSh_uJ, jA_uI, jA_uJ, jA_uR, jI_uIf_eq, jI_uIf_ne, jJ_uIf, jR_uIf, jr_uIf, jZ_uIf, jSh_uIf, jA_uIf, ne_eq, not_false_eq_true, not_true_eq_false, reduceCtorEq, Nat.reduceEqDiff, forall_eq, true_and, and_true, true_implies, forall_const, implies_true, List.mem_cons, List.not_mem_nil, or_false, false_or, or_self, if_true, if_false, reduceIte, Nat.reduceAdd, Nat.reduceMul, Nat.reduceLT, false_implies, Decidable.not_not, bI_eq0, bI_eq1, upd_at, updL_at, Nat.succ_ne_zero, Int32.reduceToNatClampNeg, eq_self, i01, i10]; exact g2, by simp only [jN_uI, jN_uJ, jN_uR, jK_uI, jK_uJ, jK_uR, jZ_uI, jZ_uJ, jZ_uR, jR_uI, jR_uJ, jr_uI, jr_uJ, jI_uJ, jI_uR, jJ_uI, jJ_uR, jI_uI_eq, jI_uI_ne, jJ_uJ_eq, jJ_uJ_ne, jSh_uI, jSh_uJ, jA_uI, jA_uJ, jA_uR, jI_uIf_eq, jI_uIf_ne, jJ_uIf, jR_uIf, jr_uIf, jZ_uIf, jSh_uIf, jA_uIf, ne_eq, not_false_eq_true, not_true_eq_false, reduceCtorEq, Nat.reduceEqDiff, forall_eq, true_and, and_true, true_implies, forall_const, implies_true, List.mem_cons, List.not_mem_nil, or_false, false_or, or_self, if_true, if_false, reduceIte, Nat.reduceAdd, Nat.reduceMul, Nat.reduceLT, false_implies, Decidable.not_not, bI_eq0, bI_eq1, upd_at, updL_at, Nat.succ_ne_zero, Int32.reduceToNatClampNeg, eq_self, i01, i10]; exact g4, by omega, ?_⟩
  intro j hj; rw [f.I 55 (by decide), f.I 54 (by decide)]; exact hp j hj
theorem MT.emit {Q : JS → Prop} {x y : Int32} (hs : jSh M) (g : jI M 45 17 = nI n) (hn : n < 400) (hq : Q (uI (uI (uI M 52 n x) 53 n y) 45 17 (nI (n + 1)))) : wX12_emit 45 x y M Q := by
  unfold wX12_emit
  simp only [shA_45, shA_52, shZ_52, shA_53, shZ_53, shR_45_2, shr_45_2, shR_45_3, shr_45_3, shR_45_4, shr_45_4, shR_45_5, shr_45_5, shR_45_7, shr_45_7, shR_45_16, shr_45_16, shR_45_18, shr_45_18, shR_45_19, shr_45_19, shR_45_21, shr_45_21, shR_45_22, shr_45_22, shR_45_25, shr_45_25, shR_45_26, shr_45_26, shR_45_28, shr_45_28, shR_45_29, shr_45_29, shR_45_33, shr_45_33, shR_45_34, shr_45_34, shR_45_35, shr_45_35, shR_45_36, shr_45_36, shR_45_37, shr_45_37, shR_45_38, shr_45_38, shR_45_39, shr_45_39, shR_45_40, shr_45_40, shR_45_42, shr_45_42, hs, g, nI_1, jN_uI, jN_uJ, jN_uR, jK_uI, jK_uJ, jK_uR, jZ_uI, jZ_uJ, jZ_uR, jR_uI, jR_uJ, jr_uI, jr_uJ, jI_uJ, jI_uR, jJ_uI, jJ_uR, jI_uI_eq, jI_uI_ne, jJ_uJ_eq, jJ_uJ_ne, jSh_uI, jSh_uJ, jA_uI, jA_uJ, jA_uR, jI_uIf_eq, jI_uIf_ne, jJ_uIf, jR_uIf, jr_uIf, jZ_uIf, jSh_uIf, jA_uIf, ne_eq, not_false_eq_true, not_true_eq_false, reduceCtorEq, Nat.reduceEqDiff, forall_eq, true_and, and_true, true_implies, forall_const, implies_true, List.mem_cons, List.not_mem_nil, or_false, false_or, or_self, if_true, if_false, reduceIte, Nat.reduceAdd, Nat.reduceMul, Nat.reduceLT, false_implies, Decidable.not_not, bI_eq0, bI_eq1, upd_at, updL_at, Nat.succ_ne_zero, Int32.reduceToNatClampNeg, eq_self, i01, i10]
  rw [nI_tn (by omega)]
  exact ⟨nI_in2 (by omega) (by omega), nI_in2 (by omega) (by omega), hq⟩
theorem MT.push {Q : JS → Prop} {x y : Int32} (hs : jSh M) (g : jI M 45 23 = nI b) (hn : b < 400) (hq : Q (uI (uI (uI M 54 b x) 55 b y) 45 23 (nI (b + 1)))) : wX12_push 45 x y M Q := by
  unfold wX12_push
  simp only [shA_45, shA_54, shZ_54, shA_55, shZ_55, shR_45_2, shr_45_2, shR_45_3, shr_45_3, shR_45_4, shr_45_4, shR_45_5, shr_45_5, shR_45_7, shr_45_7, shR_45_16, shr_45_16, shR_45_18, shr_45_18, shR_45_19, shr_45_19, shR_45_21, shr_45_21, shR_45_22, shr_45_22, shR_45_25, shr_45_25, shR_45_26, shr_45_26, shR_45_28, shr_45_28, shR_45_29, shr_45_29, shR_45_33, shr_45_33, shR_45_34, shr_45_34, shR_45_35, shr_45_35, shR_45_36, shr_45_36, shR_45_37, shr_45_37, shR_45_38, shr_45_38, shR_45_39, shr_45_39, shR_45_40, shr_45_40, shR_45_42, shr_45_42, hs, g, nI_1, jN_uI, jN_uJ, jN_uR, jK_uI, jK_uJ, jK_uR, jZ_uI, jZ_uJ, jZ_uR, jR_uI, jR_uJ, jr_uI, jr_uJ, jI_uJ, jI_uR, jJ_uI, jJ_uR, jI_uI_eq, jI_uI_ne, jJ_uJ_eq, jJ_uJ_ne, jSh_uI, jSh_uJ, jA_uI, jA_uJ, jA_uR, jI_uIf_eq, jI_uIf_ne, jJ_uIf, jR_uIf, jr_uIf, jZ_uIf, jSh_uIf, jA_uIf, ne_eq, not_false_eq_true, not_true_eq_false, reduceCtorEq, Nat.reduceEqDiff, forall_eq, true_and, and_true, true_implies, forall_const, implies_true, List.mem_cons, List.not_mem_nil, or_false, false_or, or_self, if_true, if_false, reduceIte, Nat.reduceAdd, Nat.reduceMul, Nat.reduceLT, false_implies, Decidable.not_not, bI_eq0, bI_eq1, upd_at, updL_at, Nat.succ_ne_zero, Int32.reduceToNatClampNeg, eq_self, i01, i10]
  rw [nI_tn (by omega)]
  exact ⟨nI_in2 (by omega) (by omega), nI_in2 (by omega) (by omega), hq⟩
/-- how tight an operation binds -/
def bd (o : Nat) : Nat := if 30 ≤ o then 0 else if o = 29 then 1 else if o = 28 then 2 else if o = 27 then 3 else if 24 ≤ o then 4 else if 22 ≤ o then 6 else 5
theorem sX12_binds {Q : Int32 → JS → Prop} {o : Nat} (ho : o < 1000) (h : Q (nI (bd o)) M) : wX12_binds (nI o) M Q := by
  unfold wX12_binds
  unfold bd at h
  simp (disch := omega) only [li_30, li_29, li_28, li_27, li_24, li_22, nI_lt', nI_eq', ne_eq, not_false_eq_true, not_true_eq_false, reduceCtorEq, Nat.reduceEqDiff, forall_eq, true_and, and_true, true_implies, forall_const, implies_true, List.mem_cons, List.not_mem_nil, or_false, false_or, or_self, if_true, if_false, reduceIte, Nat.reduceAdd, Nat.reduceMul, Nat.reduceLT, false_implies, Decidable.not_not, bI_eq0, bI_eq1, upd_at, updL_at, Nat.succ_ne_zero, Int32.reduceToNatClampNeg, eq_self, i01, i10]
  refine ⟨fun a => ⟨fun c => ⟨fun d => ⟨fun x => ⟨fun y => ⟨fun z => ?_, fun z => ?_⟩, fun y => ?_⟩, fun x => ?_⟩, fun d => ?_⟩, fun c => ?_⟩, fun a => ?_⟩
  · rw [if_neg (by omega), if_neg (by omega), if_neg (by omega), if_neg (by omega), if_neg (by omega), if_neg (by omega)] at h; exact h
  · rw [if_neg (by omega), if_neg (by omega), if_neg (by omega), if_neg (by omega), if_neg (by omega), if_pos (by omega)] at h; exact h
  · rw [if_neg (by omega), if_neg (by omega), if_neg (by omega), if_neg (by omega), if_pos (by omega)] at h; exact h
  · rw [if_neg (by omega), if_neg (by omega), if_neg (by omega), if_pos (by omega)] at h; exact h
  · rw [if_neg (by omega), if_neg (by omega), if_pos (by omega)] at h; exact h
  · rw [if_neg (by omega), if_pos (by omega)] at h; exact h
  · rw [if_pos (by omega)] at h; exact h
/-! settling -/
theorem st_roll {Q : JS → Prop} {lev : Nat} (h : ∀ K : Nat → Int32 → JS → Prop, (∀ M', wX12_settle_0 45 (nI lev) M' Q → K 45 (nI lev) M') → bX12_settle_0 K 45 (nI lev) M Q) : wX12_settle_0 45 (nI lev) M Q := by
  unfold wX12_settle_0
  exact jLoop.roll (h _ (fun _ h => h))
theorem st_stop {Q : JS → Prop} {lev : Nat} (hs : jSh M) (g : jI M 45 23 = nI b) (hb : b ≤ 400) (hl : lev < 10) (h : b = 0 ∨ ∃ p, p < 1000 ∧ jI M 54 (b - 1) = nI p ∧ bd p < lev) (hq : Q M) : wX12_settle_0 45 (nI lev) M Q := by
  unfold wX12_settle_0
  refine jLoop.roll ?_
  unfold bX12_settle_0
  simp only [shA_45, shA_54, shZ_54, shR_45_2, shr_45_2, shR_45_3, shr_45_3, shR_45_4, shr_45_4, shR_45_5, shr_45_5, shR_45_7, shr_45_7, shR_45_16, shr_45_16, shR_45_18, shr_45_18, shR_45_19, shr_45_19, shR_45_21, shr_45_21, shR_45_22, shr_45_22, shR_45_25, shr_45_25, shR_45_26, shr_45_26, shR_45_28, shr_45_28, shR_45_29, shr_45_29, shR_45_33, shr_45_33, shR_45_34, shr_45_34, shR_45_35, shr_45_35, shR_45_36, shr_45_36, shR_45_37, shr_45_37, shR_45_38, shr_45_38, shR_45_39, shr_45_39, shR_45_40, shr_45_40, shR_45_42, shr_45_42, hs, g, ne_eq, not_false_eq_true, not_true_eq_false, reduceCtorEq, Nat.reduceEqDiff, forall_eq, true_and, and_true, true_implies, forall_const, implies_true, List.mem_cons, List.not_mem_nil, or_false, false_or, or_self, if_true, if_false, reduceIte, Nat.reduceAdd, Nat.reduceMul, Nat.reduceLT, false_implies, Decidable.not_not, bI_eq0, bI_eq1, upd_at, updL_at, Nat.succ_ne_zero, Int32.reduceToNatClampNeg, eq_self, i01, i10]
  rw [li_0, nI_le' (by omega) (by omega)]
  refine ⟨fun _ => hq, fun z => ?_⟩
  rcases h with e | ⟨p, p0, p1, p2⟩
  · omega
  · rw [nI_s1 (by omega), nI_tn (by omega), p1]
    refine ⟨nI_in2 (by omega) (by omega), sX12_binds p0 ?_⟩
    have : bd p < 10 := by omega
    rw [nI_lt' (by omega) (by omega)]
    exact ⟨fun _ => hq, fun y => absurd p2 y⟩
theorem st_pop {Q : JS → Prop} {lev p : Nat} (hs : jSh M) (g : jI M 45 23 = nI (b + 1)) (gn : jI M 45 17 = nI n) (hn : n + (b + 1) ≤ 400) (hl : lev < 10) (hp : jI M 54 b = nI p) (p0 : p < 28) (p1 : lev ≤ bd p) (hq : wX12_settle_0 45 (nI lev) (uI (uI (uI (uI M 45 23 (nI b)) 52 n (nI p)) 53 n 0) 45 17 (nI (n + 1))) Q) : wX12_settle_0 45 (nI lev) M Q := by
  refine st_roll (fun K hK => ?_)
  have hq := hK _ hq
  unfold bX12_settle_0 wX12_settle_33
  simp only [shA_45, shA_54, shZ_54, shR_45_2, shr_45_2, shR_45_3, shr_45_3, shR_45_4, shr_45_4, shR_45_5, shr_45_5, shR_45_7, shr_45_7, shR_45_16, shr_45_16, shR_45_18, shr_45_18, shR_45_19, shr_45_19, shR_45_21, shr_45_21, shR_45_22, shr_45_22, shR_45_25, shr_45_25, shR_45_26, shr_45_26, shR_45_28, shr_45_28, shR_45_29, shr_45_29, shR_45_33, shr_45_33, shR_45_34, shr_45_34, shR_45_35, shr_45_35, shR_45_36, shr_45_36, shR_45_37, shr_45_37, shR_45_38, shr_45_38, shR_45_39, shr_45_39, shR_45_40, shr_45_40, shR_45_42, shr_45_42, hs, g, jN_uI, jN_uJ, jN_uR, jK_uI, jK_uJ, jK_uR, jZ_uI, jZ_uJ, jZ_uR, jR_uI, jR_uJ, jr_uI, jr_uJ, jI_uJ, jI_uR, jJ_uI, jJ_uR, jI_uI_eq, jI_uI_ne, jJ_uJ_eq, jJ_uJ_ne, jSh_uI, jSh_uJ, jA_uI, jA_uJ, jA_uR, jI_uIf_eq, jI_uIf_ne, jJ_uIf, jR_uIf, jr_uIf, jZ_uIf, jSh_uIf, jA_uIf, ne_eq, not_false_eq_true, not_true_eq_false, reduceCtorEq, Nat.reduceEqDiff, forall_eq, true_and, and_true, true_implies, forall_const, implies_true, List.mem_cons, List.not_mem_nil, or_false, false_or, or_self, if_true, if_false, reduceIte, Nat.reduceAdd, Nat.reduceMul, Nat.reduceLT, false_implies, Decidable.not_not, bI_eq0, bI_eq1, upd_at, updL_at, Nat.succ_ne_zero, Int32.reduceToNatClampNeg, eq_self, i01, i10]
  rw [li_0, nI_le' (by omega) (by omega), nI_s1 (by omega), Nat.add_sub_cancel, nI_tn (by omega), hp]
  refine ⟨fun z => by omega, fun _ => ⟨nI_in2 (by omega) (by omega), sX12_binds (by omega) ?_⟩⟩
  have : bd p < 10 := by unfold bd; split <;> (try omega); split <;> (try omega); split <;> (try omega); split <;> (try omega); split <;> (try omega); split <;> omega
  rw [nI_lt' (by omega) (by omega)]
  refine ⟨fun y => by omega, fun _ => ?_⟩
  simp only [shA_45, shA_54, shZ_54, shR_45_2, shr_45_2, shR_45_3, shr_45_3, shR_45_4, shr_45_4, shR_45_5, shr_45_5, shR_45_7, shr_45_7, shR_45_16, shr_45_16, shR_45_18, shr_45_18, shR_45_19, shr_45_19, shR_45_21, shr_45_21, shR_45_22, shr_45_22, shR_45_25, shr_45_25, shR_45_26, shr_45_26, shR_45_28, shr_45_28, shR_45_29, shr_45_29, shR_45_33, shr_45_33, shR_45_34, shr_45_34, shR_45_35, shr_45_35, shR_45_36, shr_45_36, shR_45_37, shr_45_37, shR_45_38, shr_45_38, shR_45_39, shr_45_39, shR_45_40, shr_45_40, shR_45_42, shr_45_42, hs, g, jN_uI, jN_uJ, jN_uR, jK_uI, jK_uJ, jK_uR, jZ_uI, jZ_uJ, jZ_uR, jR_uI, jR_uJ, jr_uI, jr_uJ, jI_uJ, jI_uR, jJ_uI, jJ_uR, jI_uI_eq, jI_uI_ne, jJ_uJ_eq, jJ_uJ_ne, jSh_uI, jSh_uJ, jA_uI, jA_uJ, jA_uR, jI_uIf_eq, jI_uIf_ne, jJ_uIf, jR_uIf, jr_uIf, jZ_uIf, jSh_uIf, jA_uIf, ne_eq, not_false_eq_true, not_true_eq_false, reduceCtorEq, Nat.reduceEqDiff, forall_eq, true_and, and_true, true_implies, forall_const, implies_true, List.mem_cons, List.not_mem_nil, or_false, false_or, or_self, if_true, if_false, reduceIte, Nat.reduceAdd, Nat.reduceMul, Nat.reduceLT, false_implies, Decidable.not_not, bI_eq0, bI_eq1, upd_at, updL_at, Nat.succ_ne_zero, Int32.reduceToNatClampNeg, eq_self, i01, i10]
  rw [nI_s1 (by omega), Nat.add_sub_cancel, nI_tn (by omega), hp]
  refine ⟨nI_in2 (by omega) (by omega), fun y => ?_, fun _ => ⟨fun _ => ?_, fun y => ?_⟩⟩
  · rw [li_28, nI_eq' (by omega) (by omega)] at y; omega
  · exact MT.emit hs (by simp only [jN_uI, jN_uJ, jN_uR, jK_uI, jK_uJ, jK_uR, jZ_uI, jZ_uJ, jZ_uR, jR_uI, jR_uJ, jr_uI, jr_uJ, jI_uJ, jI_uR, jJ_uI, jJ_uR, jI_uI_eq, jI_uI_ne, jJ_uJ_eq, jJ_uJ_ne, jSh_uI, jSh_uJ, jA_uI, jA_uJ, jA_uR, jI_uIf_eq, jI_uIf_ne, jJ_uIf, jR_uIf, jr_uIf, jZ_uIf, jSh_uIf, jA_uIf, ne_eq, not_false_eq_true, not_true_eq_false, reduceCtorEq, Nat.reduceEqDiff, forall_eq, true_and, and_true, true_implies, forall_const, implies_true, List.mem_cons, List.not_mem_nil, or_false, false_or, or_self, if_true, if_false, reduceIte, Nat.reduceAdd, Nat.reduceMul, Nat.reduceLT, false_implies, Decidable.not_not, bI_eq0, bI_eq1, upd_at, updL_at, Nat.succ_ne_zero, Int32.reduceToNatClampNeg, eq_self, i01, i10]; exact gn) (by omega) hq
  · rw [li_29, nI_eq' (by omega) (by omega)] at y; omega
theorem st_jmp {Q : JS → Prop} {lev p m : Nat} (hs : jSh M) (g : jI M 45 23 = nI (b + 1)) (gn : jI M 45 17 = nI n) (hn : n + (b + 1) ≤ 400) (hl : lev < 10) (hp : jI M 54 b = nI p) (p0 : p = 28 ∨ p = 29) (hm : jI M 55 b = nI m) (m0 : m < 400) (p1 : lev ≤ bd p) (hq : wX12_settle_0 45 (nI lev) (uI (uI M 45 23 (nI b)) 53 m (nI n)) Q) : wX12_settle_0 45 (nI lev) M Q := by
  refine st_roll (fun K hK => ?_)
  have hq := hK _ hq
  unfold bX12_settle_0
  simp only [shA_45, shA_54, shZ_54, shR_45_2, shr_45_2, shR_45_3, shr_45_3, shR_45_4, shr_45_4, shR_45_5, shr_45_5, shR_45_7, shr_45_7, shR_45_16, shr_45_16, shR_45_18, shr_45_18, shR_45_19, shr_45_19, shR_45_21, shr_45_21, shR_45_22, shr_45_22, shR_45_25, shr_45_25, shR_45_26, shr_45_26, shR_45_28, shr_45_28, shR_45_29, shr_45_29, shR_45_33, shr_45_33, shR_45_34, shr_45_34, shR_45_35, shr_45_35, shR_45_36, shr_45_36, shR_45_37, shr_45_37, shR_45_38, shr_45_38, shR_45_39, shr_45_39, shR_45_40, shr_45_40, shR_45_42, shr_45_42, hs, g, jN_uI, jN_uJ, jN_uR, jK_uI, jK_uJ, jK_uR, jZ_uI, jZ_uJ, jZ_uR, jR_uI, jR_uJ, jr_uI, jr_uJ, jI_uJ, jI_uR, jJ_uI, jJ_uR, jI_uI_eq, jI_uI_ne, jJ_uJ_eq, jJ_uJ_ne, jSh_uI, jSh_uJ, jA_uI, jA_uJ, jA_uR, jI_uIf_eq, jI_uIf_ne, jJ_uIf, jR_uIf, jr_uIf, jZ_uIf, jSh_uIf, jA_uIf, ne_eq, not_false_eq_true, not_true_eq_false, reduceCtorEq, Nat.reduceEqDiff, forall_eq, true_and, and_true, true_implies, forall_const, implies_true, List.mem_cons, List.not_mem_nil, or_false, false_or, or_self, if_true, if_false, reduceIte, Nat.reduceAdd, Nat.reduceMul, Nat.reduceLT, false_implies, Decidable.not_not, bI_eq0, bI_eq1, upd_at, updL_at, Nat.succ_ne_zero, Int32.reduceToNatClampNeg, eq_self, i01, i10]
  rw [li_0, nI_le' (by omega) (by omega), nI_s1 (by omega), Nat.add_sub_cancel, nI_tn (by omega), hp]
  refine ⟨fun z => by omega, fun _ => ⟨nI_in2 (by omega) (by omega), sX12_binds (by omega) ?_⟩⟩
  have : bd p < 10 := by rcases p0 with e | e <;> subst e <;> decide
  rw [nI_lt' (by omega) (by omega)]
  refine ⟨fun y => by omega, fun _ => ?_⟩
  simp only [shA_45, shA_54, shZ_54, shR_45_2, shr_45_2, shR_45_3, shr_45_3, shR_45_4, shr_45_4, shR_45_5, shr_45_5, shR_45_7, shr_45_7, shR_45_16, shr_45_16, shR_45_18, shr_45_18, shR_45_19, shr_45_19, shR_45_21, shr_45_21, shR_45_22, shr_45_22, shR_45_25, shr_45_25, shR_45_26, shr_45_26, shR_45_28, shr_45_28, shR_45_29, shr_45_29, shR_45_33, shr_45_33, shR_45_34, shr_45_34, shR_45_35, shr_45_35, shR_45_36, shr_45_36, shR_45_37, shr_45_37, shR_45_38, shr_45_38, shR_45_39, shr_45_39, shR_45_40, shr_45_40, shR_45_42, shr_45_42, hs, g, jN_uI, jN_uJ, jN_uR, jK_uI, jK_uJ, jK_uR, jZ_uI, jZ_uJ, jZ_uR, jR_uI, jR_uJ, jr_uI, jr_uJ, jI_uJ, jI_uR, jJ_uI, jJ_uR, jI_uI_eq, jI_uI_ne, jJ_uJ_eq, jJ_uJ_ne, jSh_uI, jSh_uJ, jA_uI, jA_uJ, jA_uR, jI_uIf_eq, jI_uIf_ne, jJ_uIf, jR_uIf, jr_uIf, jZ_uIf, jSh_uIf, jA_uIf, ne_eq, not_false_eq_true, not_true_eq_false, reduceCtorEq, Nat.reduceEqDiff, forall_eq, true_and, and_true, true_implies, forall_const, implies_true, List.mem_cons, List.not_mem_nil, or_false, false_or, or_self, if_true, if_false, reduceIte, Nat.reduceAdd, Nat.reduceMul, Nat.reduceLT, false_implies, Decidable.not_not, bI_eq0, bI_eq1, upd_at, updL_at, Nat.succ_ne_zero, Int32.reduceToNatClampNeg, eq_self, i01, i10]
  rw [nI_s1 (by omega), Nat.add_sub_cancel, nI_tn (by omega), hp]
  have fin : wX12_settle_33 K 45 (nI lev) (uI M 45 23 (nI b)) Q := by
    unfold wX12_settle_33
    simp only [shA_45, shA_53, shZ_53, shA_55, shZ_55, shR_45_2, shr_45_2, shR_45_3, shr_45_3, shR_45_4, shr_45_4, shR_45_5, shr_45_5, shR_45_7, shr_45_7, shR_45_16, shr_45_16, shR_45_18, shr_45_18, shR_45_19, shr_45_19, shR_45_21, shr_45_21, shR_45_22, shr_45_22, shR_45_25, shr_45_25, shR_45_26, shr_45_26, shR_45_28, shr_45_28, shR_45_29, shr_45_29, shR_45_33, shr_45_33, shR_45_34, shr_45_34, shR_45_35, shr_45_35, shR_45_36, shr_45_36, shR_45_37, shr_45_37, shR_45_38, shr_45_38, shR_45_39, shr_45_39, shR_45_40, shr_45_40, shR_45_42, shr_45_42, hs, jN_uI, jN_uJ, jN_uR, jK_uI, jK_uJ, jK_uR, jZ_uI, jZ_uJ, jZ_uR, jR_uI, jR_uJ, jr_uI, jr_uJ, jI_uJ, jI_uR, jJ_uI, jJ_uR, jI_uI_eq, jI_uI_ne, jJ_uJ_eq, jJ_uJ_ne, jSh_uI, jSh_uJ, jA_uI, jA_uJ, jA_uR, jI_uIf_eq, jI_uIf_ne, jJ_uIf, jR_uIf, jr_uIf, jZ_uIf, jSh_uIf, jA_uIf, ne_eq, not_false_eq_true, not_true_eq_false, reduceCtorEq, Nat.reduceEqDiff, forall_eq, true_and, and_true, true_implies, forall_const, implies_true, List.mem_cons, List.not_mem_nil, or_false, false_or, or_self, if_true, if_false, reduceIte, Nat.reduceAdd, Nat.reduceMul, Nat.reduceLT, false_implies, Decidable.not_not, bI_eq0, bI_eq1, upd_at, updL_at, Nat.succ_ne_zero, Int32.reduceToNatClampNeg, eq_self, i01, i10]
    rw [nI_tn (by omega), hm, nI_tn (by omega), gn]
    exact ⟨nI_in2 (by omega) (by omega), nI_in2 (by omega) (by omega), hq⟩
  refine ⟨nI_in2 (by omega) (by omega), fun _ => fin, fun y => ⟨fun y2 => ?_, fun _ => fin⟩⟩
  rcases p0 with e | e <;> subst e
  · exact absurd rfl y
  · exact absurd rfl y2
end MTOK
