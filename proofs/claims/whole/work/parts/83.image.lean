/-! IMAGE: what stays of a heap that grows -/
theorem RowOk.c {row row' : Nat → Int32} (h : RowOk row) (e : ∀ k, k < 5600 → row' k = row k) : RowOk row' := by
  obtain ⟨a1, ⟨m, m1, m2⟩, ⟨s, s1, s2, s3⟩, ⟨l, l1, l2, l3⟩, ⟨w, w1, w2, w3⟩, ⟨q, q1, q2, q3⟩, ⟨t, t1, t2, t3⟩, st, sg⟩ := h
  have eR : gR row' = gR row := gR_c (e 0 (by omega))
  refine ⟨by rw [eR, e 0 (by omega)]; exact a1, ⟨m, m1, by rw [e 1 (by omega)]; exact m2⟩, ⟨s, s1, s2, by rw [e 2 (by omega)]; exact s3⟩, ⟨l, l1, by rw [e 3 (by omega)]; exact l2, by rw [e 4 (by omega)]; exact l3⟩, ⟨w, w1, by rw [e 5 (by omega)]; exact w2, fun i hi => ?_⟩, ⟨q, q1, by rw [e 6 (by omega)]; exact q2, fun i hi => ?_⟩, ⟨t, t1, by rw [e 7 (by omega)]; exact t2, fun n hn => ?_⟩, fun n hn => ?_, fun c hc => ?_⟩
  · rw [eR, e _ (by omega), e _ (by omega), e _ (by omega)]; exact w3 i hi
  · rw [eR, e _ (by omega), e _ (by omega), e _ (by omega)]; exact q3 i hi
  · rw [eR, e _ (by omega)]; exact t3 n hn
  · rw [e _ (by omega)]; exact st n hn
  · rw [e _ (by omega)]; exact sg c hc
theorem WRw.c {S : JS} {w : Nat} {row row' : Nat → Int32} (hr : RowOk row) (h : WRw S w row) (e : ∀ k, k < 5600 → row' k = row k) : WRw S w row' := by
  obtain ⟨⟨b1, b2, b3, b4, b5, b6⟩, ⟨c1, c2⟩, ⟨d1, d2⟩, ⟨e1, e2⟩, hl, ht, hg⟩ := h
  obtain ⟨n, n1, n2, _⟩ := hr.2.2.2.2.1
  obtain ⟨m, m1, m2, _⟩ := hr.2.2.2.2.2.1
  obtain ⟨l, l1, l2, _⟩ := hr.2.2.2.1
  refine ⟨⟨by rw [e _ (by omega)]; exact b1, by rw [e _ (by omega)]; exact b2, by rw [e _ (by omega)]; exact b3, by rw [e _ (by omega)]; exact b4, by rw [e _ (by omega)]; exact b5, by rw [e _ (by omega)]; exact b6⟩, ⟨fun n hn => by rw [e _ (by omega)]; exact c1 n hn, c2⟩, ⟨by rw [e _ (by omega)]; exact d1, fun i hi => ?_⟩, ⟨by rw [e _ (by omega)]; exact e1, fun i hi => ?_⟩, fun i hi => ?_, fun n hn => by rw [e _ (by omega)]; exact ht n hn, fun n hn => by rw [e _ (by omega)]; exact hg n hn⟩
  · rw [e 5 (by omega)] at hi
    have h4 := hi
    rw [n2, nI_tn (by omega)] at h4
    rw [e _ (by omega), e _ (by omega), e _ (by omega)]; exact d2 i hi
  · rw [e 6 (by omega)] at hi
    have h4 := hi
    rw [m2, nI_tn (by omega)] at h4
    rw [e _ (by omega), e _ (by omega), e _ (by omega)]; exact e2 i hi
  · rw [e 3 (by omega)] at hi
    obtain ⟨g, g1, g2⟩ := hl i hi
    rw [l2, nI_tn (by omega)] at hi
    exact ⟨g, g1, g2.row (fun k k1 k2 => e k (by omega))⟩
section INVEX
variable {PI PR : Nat → Prop} {S F : JS}
theorem WRw.ex {w : Nat} {row : Nat → Int32} (f : jEx PI PR S F) (qw : WS S w) (h : WRw S w row) (hG : ∀ i h, jR S (w + 9) i = some h → LawB S h) (hP : ∀ j, j < 12 → ¬ PI (w + j)) (hR : ¬ PR (w + 9)) (hL : ∀ i h, jR S (w + 9) i = some h → ¬ PR h ∧ ∀ j, j < 6 → ¬ PI (h + j)) : WRw F w row := by
  obtain ⟨b, c, d, e, hl, t⟩ := h
  have hN := qw.1
  have i : ∀ j, j < 12 → jI F (w + j) = jI S (w + j) := fun j hj => f.I (by omega) (hP j hj)
  have i0 : jI F w = jI S w := i 0 (by omega)
  have j0 : jJ F w = jJ S w := f.J (by omega) (hP 0 (by omega))
  unfold WRw WR
  rw [i0, j0, i 1 (by omega), i 2 (by omega), i 3 (by omega), i 4 (by omega), i 5 (by omega), i 6 (by omega), i 7 (by omega), i 8 (by omega), i 10 (by omega), i 11 (by omega), f.R (by omega) hR]
  refine ⟨b, c, d, e, fun k hk => ?_, t⟩
  obtain ⟨g, g1, g2⟩ := hl k hk
  obtain ⟨l1, l2⟩ := hL k g g1
  exact ⟨g, g1, g2.ex f (hG k g g1) l1 l2⟩
theorem GT.law (hG : GT S) (hs : jSh S) {w : Nat} (qw : WS S w) : ∀ i h, jR S (w + 9) i = some h → 69 ≤ h ∧ LawB S h := fun i h e => hG (w + 9) i h (by have := qw.1; omega) (qw.A (j := 9) (k := 16) (z := 6) (by decide)).1.2 e
theorem MW.ex (f : jEx PI PR S F) (hI : Inv S) (hP : ∀ h, h < 69 → PI h → h = 0 ∨ h = 14 ∨ (44 < h ∧ h ≠ 47)) (hR : ∀ h, h < 69 → PR h → h = 13) (hL : ∀ i h, jR S 10 i = some h → ¬ PR h ∧ ∀ j, j < 6 → ¬ PI (h + j)) : MW F := by
  have hs := hI.1
  have hN := hs.1
  have e47 : jI F 47 = jI S 47 := f.I (by omega) (fun z => by have := hP 47 (by omega) z; omega)
  refine ⟨by rw [e47]; exact hI.2.1.1, ?_⟩
  rw [e47]
  exact WRw.ex (w := 1) f (WS_1 hs) hI.2.1.2 (fun i h e => (hI.2.2.2.2.2.2.2.2.2.2.law hs (WS_1 hs) i h e).2) (fun j hj z => by have := hP (1 + j) (by omega) z; omega) (fun z => by have := hR (1 + 9) (by omega) z; omega) hL
theorem Inv.ex (f : jEx PI PR S F) (hI : Inv S) (hP : ∀ h, h < 69 → PI h → h = 0 ∨ (1 ≤ h ∧ h ≤ 12) ∨ (14 ≤ h ∧ h ≤ 22) ∨ (24 ≤ h ∧ h ≤ 28) ∨ h = 45 ∨ h = 47 ∨ h = 48 ∨ h = 49 ∨ (51 ≤ h ∧ h ≤ 55) ∨ h = 58 ∨ h = 59) (hR : ∀ h, h < 69 → PR h → h = 10 ∨ h = 13) (e43 : jI F 45 43 = jI S 45 43) (hM : MW F) (hB : BC F) (hT : TP F) (hF : SF F) (hIM : IM F) (hG : GT F) (e13 : jI F 0 13 = 0) (e12 : jI F 0 12 = 0) (e1 : jI F 45 1 = 0) : Inv F := by
  obtain ⟨i1, i2, i3, i4, i5, i6, i7, i8, i9, i10, i11⟩ := hI
  have hN := i1.1
  have k : ∀ h, h < 69 → (h = 44 ∨ h = 46 ∨ h = 41 ∨ h = 42 ∨ h = 68 ∨ h = 56 ∨ h = 57) → ¬ PI h := fun h h1 h2 z => by have := hP h h1 z; omega
  refine ⟨f.sh i1 hR, hM, hB, SV.no e13, hT, ⟨?_, e12.trans e1.symm⟩, hF, ?_, ?_, hIM, hG⟩
  · rw [f.I (by omega) (k 44 (by omega) (by omega)), f.I (by omega) (k 46 (by omega) (by omega))]; exact i6.1
  · unfold YR at i8 ⊢
    rw [f.I (by omega) (k 41 (by omega) (by omega)), f.I (by omega) (k 42 (by omega) (by omega)), f.I (by omega) (k 68 (by omega) (by omega)), e43]; exact i8
  · unfold CW at i9 ⊢
    rw [f.J (by omega) (k 56 (by omega) (by omega)), f.J (by omega) (k 57 (by omega) (by omega))]; exact i9
end INVEX
theorem sX11_acc' {S S1 : JS} {Q : Int32 → JS → Prop} {W : JS → (Int32 → JS → Prop) → Prop} {v : Int32} (hs1 : jSh S1) (hq : ∀ r S1, Mdl W S r S1 → Q r S1) (go : ∀ S2 Q', jA S2 45 12 → (∀ M, M = uI S2 45 0 0 → jSh M ∧ jFr [0, 45] S1 M ∧ jFk 0 [12, 13] S1 M ∧ jFk 45 [0] S1 M ∧ jI M 0 12 = 0 ∧ jI M 0 13 = 0) → (∀ S3, Inv S3 → jN S3 ≤ jN S + 12 → Q' v S3) → W S2 Q') : wX11_accept 0 v S1 Q := by
  refine sX11_accept hs1 (hq _ _ ⟨by simp only [jN_uI, jN_uJ, jN_uR, jK_uI, jK_uJ, jK_uR, jZ_uI, jZ_uJ, jZ_uR, jR_uI, jR_uJ, jr_uI, jr_uJ, jI_uJ, jI_uR, jJ_uI, jJ_uR, jI_uI_eq, jI_uI_ne, jJ_uJ_eq, jJ_uJ_ne, jSh_uI, jSh_uJ, jA_uI, jA_uJ, jA_uR, jI_uIf_eq, jI_uIf_ne, jJ_uIf, jR_uIf, jr_uIf, jZ_uIf, jSh_uIf, jA_uIf]; exact hs1, fun Q' hq' => go _ Q' (by simp only [jN_uI, jN_uJ, jN_uR, jK_uI, jK_uJ, jK_uR, jZ_uI, jZ_uJ, jZ_uR, jR_uI, jR_uJ, jr_uI, jr_uJ, jI_uJ, jI_uR, jJ_uI, jJ_uR, jI_uI_eq, jI_uI_ne, jJ_uJ_eq, jJ_uJ_ne, jSh_uI, jSh_uJ, jA_uI, jA_uJ, jA_uR, jI_uIf_eq, jI_uIf_ne, jJ_uIf, jR_uIf, jr_uIf, jZ_uIf, jSh_uIf, jA_uIf]; exact shA_45 hs1) (fun M eM => ?_) hq'⟩)
  have f : jFr [0, 45] S1 M := by rw [eM]; exact (((jFr.refl _ _).uI (by decide)).uI (by decide)).uI (by decide)
  refine ⟨f.sh.mpr hs1, f, by rw [eM]; exact (((jFk.refl _ _ _).sI (by decide)).sI (by decide)).oI (by decide), by rw [eM]; exact (((jFk.refl _ _ _).oI (by decide)).oI (by decide)).sI (by decide), ?_, ?_⟩
  · rw [eM]; simp only [jN_uI, jN_uJ, jN_uR, jK_uI, jK_uJ, jK_uR, jZ_uI, jZ_uJ, jZ_uR, jR_uI, jR_uJ, jr_uI, jr_uJ, jI_uJ, jI_uR, jJ_uI, jJ_uR, jI_uI_eq, jI_uI_ne, jJ_uJ_eq, jJ_uJ_ne, jSh_uI, jSh_uJ, jA_uI, jA_uJ, jA_uR, jI_uIf_eq, jI_uIf_ne, jJ_uIf, jR_uIf, jr_uIf, jZ_uIf, jSh_uIf, jA_uIf, ne_eq, not_false_eq_true, not_true_eq_false, reduceCtorEq, Nat.reduceEqDiff, forall_eq, true_and, and_true, true_implies, forall_const, implies_true, List.mem_cons, List.not_mem_nil, or_false, false_or, or_self, if_true, if_false, reduceIte, Nat.reduceAdd, Nat.reduceMul, Nat.reduceLT, false_implies, Decidable.not_not, bI_eq0, bI_eq1, upd_at, updL_at, Nat.succ_ne_zero, Int32.reduceToNatClampNeg, eq_self, i01, i10]
  · rw [eM]; simp only [jN_uI, jN_uJ, jN_uR, jK_uI, jK_uJ, jK_uR, jZ_uI, jZ_uJ, jZ_uR, jR_uI, jR_uJ, jr_uI, jr_uJ, jI_uJ, jI_uR, jJ_uI, jJ_uR, jI_uI_eq, jI_uI_ne, jJ_uJ_eq, jJ_uJ_ne, jSh_uI, jSh_uJ, jA_uI, jA_uJ, jA_uR, jI_uIf_eq, jI_uIf_ne, jJ_uIf, jR_uIf, jr_uIf, jZ_uIf, jSh_uIf, jA_uIf, ne_eq, not_false_eq_true, not_true_eq_false, reduceCtorEq, Nat.reduceEqDiff, forall_eq, true_and, and_true, true_implies, forall_const, implies_true, List.mem_cons, List.not_mem_nil, or_false, false_or, or_self, if_true, if_false, reduceIte, Nat.reduceAdd, Nat.reduceMul, Nat.reduceLT, false_implies, Decidable.not_not, bI_eq0, bI_eq1, upd_at, updL_at, Nat.succ_ne_zero, Int32.reduceToNatClampNeg, eq_self, i01, i10]
/-- the model keeps a row -/
theorem ml_image {M : JS} {Q : Int32 → JS → Prop} {k : Nat} (hs : jSh M) (hk : k < 2) (h : ∀ X, jFr [45, 48, 49] M X → jFk 45 [1] M X → jI X 45 1 = 0 → (∀ j, jI X 48 j = if 5600 * k ≤ j ∧ j < 5600 * k + 5600 then jI M 47 (j - 5600 * k) else jI M 48 j) → (∀ j, jI X 49 j = if j = k then 1 else jI M 49 j) → Q 0 X) : wX12_image_15 45 (nI k) 0 M Q := by
  unfold wX12_image_15
  refine jLoop.cnt 5600 (fun c q => ∃ X, q = (45, nI k, nI c, X) ∧ jFr [48] M X ∧ ∀ j, jI X 48 j = if 5600 * k ≤ j ∧ j < 5600 * k + c then jI M 47 (j - 5600 * k) else jI M 48 j) 0 (by omega) ?_ ⟨M, rfl, jFr.refl _ _, fun j => by rw [if_neg (by omega)]⟩
  rintro c _ hc ⟨X, rfl, f, e⟩
  have hsX := f.sh.mpr hs
  unfold bX12_image_15
  simp only [shA_45, shA_47, shZ_47, shA_48, shZ_48, shA_49, shZ_49, shR_45_2, shr_45_2, shR_45_3, shr_45_3, shR_45_4, shr_45_4, shR_45_5, shr_45_5, shR_45_7, shr_45_7, shR_45_16, shr_45_16, shR_45_18, shr_45_18, shR_45_19, shr_45_19, shR_45_21, shr_45_21, shR_45_22, shr_45_22, shR_45_25, shr_45_25, shR_45_26, shr_45_26, shR_45_28, shr_45_28, shR_45_29, shr_45_29, shR_45_33, shr_45_33, shR_45_34, shr_45_34, shR_45_35, shr_45_35, shR_45_36, shr_45_36, shR_45_37, shr_45_37, shR_45_38, shr_45_38, shR_45_39, shr_45_39, shR_45_40, shr_45_40, shR_45_42, shr_45_42, hsX, f.I 47 (by decide), nI_1, jN_uI, jN_uJ, jN_uR, jK_uI, jK_uJ, jK_uR, jZ_uI, jZ_uJ, jZ_uR, jR_uI, jR_uJ, jr_uI, jr_uJ, jI_uJ, jI_uR, jJ_uI, jJ_uR, jI_uI_eq, jI_uI_ne, jJ_uJ_eq, jJ_uJ_ne, jSh_uI, jSh_uJ, jA_uI, jA_uJ, jA_uR, jI_uIf_eq, jI_uIf_ne, jJ_uIf, jR_uIf, jr_uIf, jZ_uIf, jSh_uIf, jA_uIf, ne_eq, not_false_eq_true, not_true_eq_false, reduceCtorEq, Nat.reduceEqDiff, forall_eq, true_and, and_true, true_implies, forall_const, implies_true, List.mem_cons, List.not_mem_nil, or_false, false_or, or_self, if_true, if_false, reduceIte, Nat.reduceAdd, Nat.reduceMul, Nat.reduceLT, false_implies, Decidable.not_not, bI_eq0, bI_eq1, upd_at, updL_at, Nat.succ_ne_zero, Int32.reduceToNatClampNeg, eq_self, i01, i10]
  simp (disch := omega) only [li_5600, nI_le', nI_mul, nI_add, nI_tn, nI_inT, ne_eq, not_false_eq_true, not_true_eq_false, reduceCtorEq, Nat.reduceEqDiff, forall_eq, true_and, and_true, true_implies, forall_const, implies_true, List.mem_cons, List.not_mem_nil, or_false, false_or, or_self, if_true, if_false, reduceIte, Nat.reduceAdd, Nat.reduceMul, Nat.reduceLT, false_implies, Decidable.not_not, bI_eq0, bI_eq1, upd_at, updL_at, Nat.succ_ne_zero, Int32.reduceToNatClampNeg, eq_self, i01, i10]
  refine ⟨fun z => ?_, fun z => ⟨nI_in2 (by omega) (by omega), nI_in2 (by omega) (by omega), by omega, _, rfl, f.uI (by decide), fun j => ?_⟩⟩
  · have : c = 5600 := by omega
    subst this
    refine sX12_tell0 (v := 0) (by omega) hsX (h _ (((f.mono (by decide)).uI (by decide)).uI (by decide)) (((jFk.of f (by decide)).oI (by decide)).sI (by decide)) (by simp only [jN_uI, jN_uJ, jN_uR, jK_uI, jK_uJ, jK_uR, jZ_uI, jZ_uJ, jZ_uR, jR_uI, jR_uJ, jr_uI, jr_uJ, jI_uJ, jI_uR, jJ_uI, jJ_uR, jI_uI_eq, jI_uI_ne, jJ_uJ_eq, jJ_uJ_ne, jSh_uI, jSh_uJ, jA_uI, jA_uJ, jA_uR, jI_uIf_eq, jI_uIf_ne, jJ_uIf, jR_uIf, jr_uIf, jZ_uIf, jSh_uIf, jA_uIf, ne_eq, not_false_eq_true, not_true_eq_false, reduceCtorEq, Nat.reduceEqDiff, forall_eq, true_and, and_true, true_implies, forall_const, implies_true, List.mem_cons, List.not_mem_nil, or_false, false_or, or_self, if_true, if_false, reduceIte, Nat.reduceAdd, Nat.reduceMul, Nat.reduceLT, false_implies, Decidable.not_not, bI_eq0, bI_eq1, upd_at, updL_at, Nat.succ_ne_zero, Int32.reduceToNatClampNeg, eq_self, i01, i10]) (fun j => by simp only [jN_uI, jN_uJ, jN_uR, jK_uI, jK_uJ, jK_uR, jZ_uI, jZ_uJ, jZ_uR, jR_uI, jR_uJ, jr_uI, jr_uJ, jI_uJ, jI_uR, jJ_uI, jJ_uR, jI_uI_eq, jI_uI_ne, jJ_uJ_eq, jJ_uJ_ne, jSh_uI, jSh_uJ, jA_uI, jA_uJ, jA_uR, jI_uIf_eq, jI_uIf_ne, jJ_uIf, jR_uIf, jr_uIf, jZ_uIf, jSh_uIf, jA_uIf, ne_eq, not_false_eq_true, not_true_eq_false, reduceCtorEq, Nat.reduceEqDiff, forall_eq, true_and, and_true, true_implies, forall_const, implies_true, List.mem_cons, List.not_mem_nil, or_false, false_or, or_self, if_true, if_false, reduceIte, Nat.reduceAdd, Nat.reduceMul, Nat.reduceLT, false_implies, Decidable.not_not, bI_eq0, bI_eq1, upd_at, updL_at, Nat.succ_ne_zero, Int32.reduceToNatClampNeg, eq_self, i01, i10]; exact e j) (fun j => ?_))
    simp only [jN_uI, jN_uJ, jN_uR, jK_uI, jK_uJ, jK_uR, jZ_uI, jZ_uJ, jZ_uR, jR_uI, jR_uJ, jr_uI, jr_uJ, jI_uJ, jI_uR, jJ_uI, jJ_uR, jI_uI_eq, jI_uI_ne, jJ_uJ_eq, jJ_uJ_ne, jSh_uI, jSh_uJ, jA_uI, jA_uJ, jA_uR, jI_uIf_eq, jI_uIf_ne, jJ_uIf, jR_uIf, jr_uIf, jZ_uIf, jSh_uIf, jA_uIf, ne_eq, not_false_eq_true, not_true_eq_false, reduceCtorEq, Nat.reduceEqDiff, forall_eq, true_and, and_true, true_implies, forall_const, implies_true, List.mem_cons, List.not_mem_nil, or_false, false_or, or_self, if_true, if_false, reduceIte, Nat.reduceAdd, Nat.reduceMul, Nat.reduceLT, false_implies, Decidable.not_not, bI_eq0, bI_eq1, upd_at, updL_at, Nat.succ_ne_zero, Int32.reduceToNatClampNeg, eq_self, i01, i10, f.I 49 (by decide), upd_at]
  · simp only [jN_uI, jN_uJ, jN_uR, jK_uI, jK_uJ, jK_uR, jZ_uI, jZ_uJ, jZ_uR, jR_uI, jR_uJ, jr_uI, jr_uJ, jI_uJ, jI_uR, jJ_uI, jJ_uR, jI_uI_eq, jI_uI_ne, jJ_uJ_eq, jJ_uJ_ne, jSh_uI, jSh_uJ, jA_uI, jA_uJ, jA_uR, jI_uIf_eq, jI_uIf_ne, jJ_uIf, jR_uIf, jr_uIf, jZ_uIf, jSh_uIf, jA_uIf, ne_eq, not_false_eq_true, not_true_eq_false, reduceCtorEq, Nat.reduceEqDiff, forall_eq, true_and, and_true, true_implies, forall_const, implies_true, List.mem_cons, List.not_mem_nil, or_false, false_or, or_self, if_true, if_false, reduceIte, Nat.reduceAdd, Nat.reduceMul, Nat.reduceLT, false_implies, Decidable.not_not, bI_eq0, bI_eq1, upd_at, updL_at, Nat.succ_ne_zero, Int32.reduceToNatClampNeg, eq_self, i01, i10, upd_at, e]
    by_cases e2 : j = 5600 * k + c
    · subst e2; rw [if_pos rfl, if_pos (by omega), Nat.add_sub_cancel_left]
    · rw [if_neg e2]
      have : (5600 * k ≤ j ∧ j < 5600 * k + (c + 1)) ↔ (5600 * k ≤ j ∧ j < 5600 * k + c) := by omega
      simp only [this]
