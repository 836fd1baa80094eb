/-! WHAT HOLDS BETWEEN CALLS -/
def TP (S : JS) : Prop := ∃ t, t ≤ 400 ∧ jI S 14 1 = nI t ∧ jI S 45 8 = nI t ∧ ∀ i, i < t → jI S 15 i = jI S 50 i ∧ ∃ b, b < 256 ∧ jI S 50 i = nI b
def RF (S : JS) : Prop := (jI S 44 0 = jI S 46 1 ∧ jI S 44 1 = jI S 46 2 ∧ jI S 44 2 = jI S 46 3 ∧ jI S 44 3 = jI S 46 5 ∧ jI S 44 4 = jI S 46 6) ∧ jI S 0 12 = jI S 45 1
def SF (S : JS) : Prop := jI S 0 10 = jI S 45 6 ∧ jI S 0 11 = jI S 45 13
def YR (S : JS) : Prop := jbit (jI S 41 1) ∧ jI S 45 43 = jI S 41 1 ∧ (jI S 41 1 = 1 → ∀ n, n < 60 → jI S 42 n = jI S 68 n)
def CW (S : JS) : Prop := (jJ S 56 0 = 605291 ∧ jJ S 56 1 = 655 ∧ jJ S 56 2 = 14982420 ∧ jJ S 56 3 = 20594253 ∧ jJ S 56 4 = 441828 ∧ jJ S 56 5 = 6194) ∧ jJ S 57 0 = 135732402 ∧ jJ S 57 1 = 763276 ∧ jJ S 57 2 = 67155
def SV (S : JS) : Prop := jbit (jI S 0 13) ∧ (jI S 0 13 = 1 → SvOk (jI S 47) (jI S 29 5) (jJ S 29 6) (jI S 33) (jI S 34))
/-- the shape of a World made later: twelve handles from w on -/
def wdKZ : List (Nat × Nat × Nat) := [(0, 9, 12), (1, 8, 4), (2, 13, 4), (3, 13, 4), (4, 13, 4), (5, 8, 4), (6, 13, 16), (7, 13, 16), (8, 13, 16), (9, 16, 6), (10, 13, 60), (11, 13, 12)]
def wdRR : List (Nat × Nat × Nat) := [(0, 4, 1), (0, 5, 5), (0, 6, 9), (0, 9, 10), (0, 11, 11), (1, 0, 2), (1, 1, 3), (1, 2, 4), (5, 0, 6), (5, 1, 7), (5, 2, 8)]
def WS (S : JS) (w : Nat) : Prop := w + 12 ≤ jN S ∧ (∀ q ∈ wdKZ, jK S (w + q.1) = q.2.1 ∧ jZ S (w + q.1) = q.2.2) ∧ ∀ q ∈ wdRR, jR S (w + q.1) q.2.1 = some (w + q.2.2)
def LawB (S : JS) (h : Nat) : Prop := h + 6 ≤ jN S ∧ jK S h = 3 ∧ (∀ i, 0 < i → i < 6 → jK S (h + i) = 13 ∧ jR S h i = some (h + i))
def GT (S : JS) : Prop := ∀ g i h, g < jN S → jK S g = 16 → jR S g i = some h → 69 ≤ h ∧ LawB S h
def WRw (S : JS) (w : Nat) (row : Nat → Int32) : Prop := WR S w (w + 1) (w + 2) (w + 3) (w + 4) (w + 5) (w + 6) (w + 7) (w + 8) (w + 9) (w + 10) (w + 11) row
def IMk (S : JS) (k : Nat) : Prop := (jI S 49 k = 0 ∧ jR S 13 k = none) ∨ (jI S 49 k = 1 ∧ ∃ w, 69 ≤ w ∧ jR S 13 k = some w ∧ WS S w ∧ RowOk (fun i => jI S 48 (5600 * k + i)) ∧ WRw S w (fun i => jI S 48 (5600 * k + i)))
def IM (S : JS) : Prop := IMk S 0 ∧ IMk S 1 ∧ ∀ a b, jR S 13 0 = some a → jR S 13 1 = some b → a ≠ b
def Inv (S : JS) : Prop := jSh S ∧ MW S ∧ BC S ∧ SV S ∧ TP S ∧ RF S ∧ SF S ∧ YR S ∧ CW S ∧ IM S ∧ GT S
section IFR
variable {S S' : JS} {H : List Nat}
theorem BC.fr (f : jFr H S S') (hd : ∀ x ∈ [27, 28, 47], x ∉ H) (q : BC S) : BC S' := by
  unfold BC at q ⊢
  rw [f.I 27 (hd 27 (by decide)), f.I 28 (hd 28 (by decide)), f.I 47 (hd 47 (by decide))]; exact q
theorem SV.fr (f : jFr H S S') (hd : ∀ x ∈ [29, 33, 34, 47], x ∉ H) (e : jI S' 0 13 = jI S 0 13) (q : SV S) : SV S' := by
  unfold SV at q ⊢
  rw [f.I 29 (hd 29 (by decide)), f.J 29 (hd 29 (by decide)), f.I 33 (hd 33 (by decide)), f.I 34 (hd 34 (by decide)), f.I 47 (hd 47 (by decide)), e]; exact q
theorem SV.no (h : jI S 0 13 = 0) : SV S := by
  unfold SV; rw [h]; exact ⟨Or.inl rfl, fun z => absurd z (by decide)⟩
theorem TP.fr (f : jFr H S S') (hd : ∀ x ∈ [15, 50], x ∉ H) (e : jI S' 14 1 = jI S 14 1) (e2 : jI S' 45 8 = jI S 45 8) (q : TP S) : TP S' := by
  unfold TP at q ⊢
  rw [f.I 15 (hd 15 (by decide)), f.I 50 (hd 50 (by decide)), e, e2]; exact q
theorem RF.fr (f : jFr H S S') (hd : ∀ x ∈ [44, 46], x ∉ H) (e : jI S' 0 12 = jI S 0 12) (e2 : jI S' 45 1 = jI S 45 1) (q : RF S) : RF S' := by
  unfold RF at q ⊢
  rw [f.I 44 (hd 44 (by decide)), f.I 46 (hd 46 (by decide)), e, e2]; exact q
theorem SF.fr (e : jI S' 0 10 = jI S 0 10) (e2 : jI S' 45 6 = jI S 45 6) (e3 : jI S' 0 11 = jI S 0 11) (e4 : jI S' 45 13 = jI S 45 13) (q : SF S) : SF S' := by
  unfold SF at q ⊢
  rw [e, e2, e3, e4]; exact q
theorem YR.fr (f : jFr H S S') (hd : ∀ x ∈ [41, 42, 68], x ∉ H) (e2 : jI S' 45 43 = jI S 45 43) (q : YR S) : YR S' := by
  unfold YR at q ⊢
  rw [f.I 41 (hd 41 (by decide)), f.I 42 (hd 42 (by decide)), f.I 68 (hd 68 (by decide)), e2]; exact q
theorem CW.fr (f : jFr H S S') (hd : ∀ x ∈ [56, 57], x ∉ H) (q : CW S) : CW S' := by
  unfold CW at q ⊢
  rw [f.J 56 (hd 56 (by decide)), f.J 57 (hd 57 (by decide))]; exact q
theorem WS.fr {w : Nat} (f : jFr H S S') (q : WS S w) : WS S' w := by
  unfold WS at q ⊢
  rw [f.N, f.K, f.Z, f.R]; exact q
theorem GT.fr (f : jFr H S S') (q : GT S) : GT S' := by
  unfold GT LawB at q ⊢
  rw [f.N, f.K, f.R]; exact q
theorem WRw.fr {w : Nat} {row : Nat → Int32} (f : jFr H S S') (hH : ∀ x ∈ H, x < 69) (hw : 69 ≤ w) (q : WRw S w row) : WRw S' w row := by
  refine WR.fr f hH (fun x hx z => ?_) q
  have := hH x z
  simp only [List.mem_cons, List.not_mem_nil, or_false] at hx
  omega
theorem IMk.fr {k : Nat} (f : jFr H S S') (hH : ∀ x ∈ H, x < 69) (hd : ∀ x ∈ [48, 49], x ∉ H) (q : IMk S k) : IMk S' k := by
  unfold IMk at q ⊢
  rw [f.I 48 (hd 48 (by decide)), f.I 49 (hd 49 (by decide)), f.R]
  rcases q with q | ⟨q1, w, w1, w2, w3, w4, w5⟩
  · exact Or.inl q
  · exact Or.inr ⟨q1, w, w1, w2, w3.fr f, w4, w5.fr f hH w1⟩
theorem IM.fr (f : jFr H S S') (hH : ∀ x ∈ H, x < 69) (hd : ∀ x ∈ [48, 49], x ∉ H) (q : IM S) : IM S' := by
  refine ⟨q.1.fr f hH hd, q.2.1.fr f hH hd, ?_⟩
  rw [f.R]; exact q.2.2
/-- a query of the model -/
theorem Inv.m (hI : Inv S) (f : jFr [45, 51, 52, 53, 54, 55, 58, 59, 60, 61, 62, 63, 64, 65, 66, 67] S S') (k : jFk 45 [0, 9, 10, 11, 12, 14, 15, 17, 20, 23, 24, 27, 30, 31, 32, 41] S S') : Inv S' := by
  obtain ⟨i1, i2, i3, i4, i5, i6, i7, i8, i9, i10, i11⟩ := hI
  have e0 : jI S' 0 = jI S 0 := f.I 0 (by decide)
  exact ⟨f.sh.mpr i1, i2.fr f (by decide) (by decide), i3.fr f (by decide), i4.fr f (by decide) (by rw [e0]), i5.fr f (by decide) (by rw [f.I 14 (by decide)]) (k.I 8 (by decide)), i6.fr f (by decide) (by rw [e0]) (k.I 1 (by decide)), i7.fr (by rw [e0]) (k.I 6 (by decide)) (by rw [e0]) (k.I 13 (by decide)), i8.fr f (by decide) (k.I 43 (by decide)), i9.fr f (by decide), i10.fr f (by decide) (by decide), i11.fr f⟩
/-- a query of the class -/
theorem Inv.c (hI : Inv S) (f : jFr [0, 24, 25, 26, 27, 28, 29, 30, 31, 32, 33, 34, 35, 36, 37, 38, 39, 40, 43] S S') (k : jFk 0 [13] S S') (hB : BC S') (hV : SV S') : Inv S' := by
  obtain ⟨i1, i2, i3, i4, i5, i6, i7, i8, i9, i10, i11⟩ := hI
  have e0 : jI S' 45 = jI S 45 := f.I 45 (by decide)
  exact ⟨f.sh.mpr i1, i2.fr f (by decide) (by decide), hB, hV, i5.fr f (by decide) (by rw [f.I 14 (by decide)]) (by rw [e0]), i6.fr f (by decide) (k.I 12 (by decide)) (by rw [e0]), i7.fr (k.I 10 (by decide)) (by rw [e0]) (k.I 11 (by decide)) (by rw [e0]), i8.fr f (by decide) (by rw [e0]), i9.fr f (by decide), i10.fr f (by decide) (by decide), i11.fr f⟩
/-- refused by both -/
def rfP (why : Int32) (i j : Nat) : Prop := (why = -1 ∧ i = 0 ∧ j = 1) ∨ (why = -2 ∧ i = 1 ∧ j = 2) ∨ (why = -3 ∧ i = 2 ∧ j = 3) ∨ (why = -5 ∧ i = 3 ∧ j = 5) ∨ (why = -6 ∧ i = 4 ∧ j = 6)
theorem sX11_refuse {Q : Int32 → JS → Prop} {why : Int32} (i j : Nat) (hw : rfP why i j) (hs : jSh S) (h : Q why (uI (uI S 0 12 why) 44 i (jI S 44 i + 1))) : wX11_refuse 0 why S Q := by
  unfold wX11_refuse
  simp only [shA_0, shA_44, shZ_44, shR_0_0, shr_0_0, shR_0_1, shr_0_1, shR_0_2, shr_0_2, shR_0_3, shr_0_3, shR_0_4, shr_0_4, shR_0_5, shr_0_5, shR_0_6, shr_0_6, shR_0_7, shr_0_7, shR_0_8, shr_0_8, shR_0_9, shr_0_9, hs, jN_uI, jN_uJ, jN_uR, jK_uI, jK_uJ, jK_uR, jZ_uI, jZ_uJ, jZ_uR, jR_uI, jR_uJ, jr_uI, jr_uJ, jI_uJ, jI_uR, jJ_uI, jJ_uR, jI_uI_eq, jI_uI_ne, jJ_uJ_eq, jJ_uJ_ne, jSh_uI, jSh_uJ, jA_uI, jA_uJ, jA_uR, jI_uIf_eq, jI_uIf_ne, jJ_uIf, jR_uIf, jr_uIf, jZ_uIf, jSh_uIf, jA_uIf, ne_eq, not_false_eq_true, not_true_eq_false, reduceCtorEq, Nat.reduceEqDiff, forall_eq, true_and, and_true, true_implies, forall_const, implies_true, List.mem_cons, List.not_mem_nil, or_false, false_or, or_self, if_true, if_false, reduceIte, Nat.reduceAdd, Nat.reduceMul, Nat.reduceLT, false_implies, Decidable.not_not, bI_eq0, bI_eq1, upd_at, updL_at, Nat.succ_ne_zero, Int32.reduceToNatClampNeg, eq_self, i01, i10]
  rcases hw with ⟨rfl, rfl, rfl⟩ | ⟨rfl, rfl, rfl⟩ | ⟨rfl, rfl, rfl⟩ | ⟨rfl, rfl, rfl⟩ | ⟨rfl, rfl, rfl⟩
  · exact ⟨fun z => absurd z (by decide), fun _ => ⟨fun z => absurd z (by decide), fun _ => ⟨fun z => absurd z (by decide), fun _ => ⟨fun z => absurd z (by decide), fun _ => ⟨fun _ => ⟨nI_in2 (n := 0) (by omega) (by omega), h⟩, fun z => absurd rfl z⟩⟩⟩⟩⟩
  · exact ⟨fun z => absurd z (by decide), fun _ => ⟨fun z => absurd z (by decide), fun _ => ⟨fun z => absurd z (by decide), fun _ => ⟨fun _ => ⟨nI_in2 (n := 1) (by omega) (by omega), h⟩, fun z => absurd rfl z⟩⟩⟩⟩
  · exact ⟨fun z => absurd z (by decide), fun _ => ⟨fun z => absurd z (by decide), fun _ => ⟨fun _ => ⟨nI_in2 (n := 2) (by omega) (by omega), h⟩, fun z => absurd rfl z⟩⟩⟩
  · exact ⟨fun _ => ⟨nI_in2 (n := 3) (by omega) (by omega), h⟩, fun z => absurd rfl z⟩
  · exact ⟨fun z => absurd z (by decide), fun _ => ⟨fun z => absurd z (by decide), fun _ => ⟨fun z => absurd z (by decide), fun _ => ⟨fun z => absurd z (by decide), fun _ => ⟨fun z => absurd z (by decide), fun _ => ⟨nI_in2 (n := 4) (by omega) (by omega), h⟩⟩⟩⟩⟩⟩
theorem sX12_tell {Q : Int32 → JS → Prop} {why : Int32} (i j : Nat) (hw : rfP why i j) (hs : jSh S) (h : Q why (uI (uI S 45 1 why) 46 j (jI S 46 j + 1))) : wX12_tell 45 why S Q := by
  unfold wX12_tell wX12_tell_6
  simp only [shA_45, shA_46, shZ_46, shR_45_2, shr_45_2, shR_45_3, shr_45_3, shR_45_4, shr_45_4, shR_45_5, shr_45_5, shR_45_7, shr_45_7, shR_45_16, shr_45_16, shR_45_18, shr_45_18, shR_45_19, shr_45_19, shR_45_21, shr_45_21, shR_45_22, shr_45_22, shR_45_25, shr_45_25, shR_45_26, shr_45_26, shR_45_28, shr_45_28, shR_45_29, shr_45_29, shR_45_33, shr_45_33, shR_45_34, shr_45_34, shR_45_35, shr_45_35, shR_45_36, shr_45_36, shR_45_37, shr_45_37, shR_45_38, shr_45_38, shR_45_39, shr_45_39, shR_45_40, shr_45_40, shR_45_42, shr_45_42, hs, jN_uI, jN_uJ, jN_uR, jK_uI, jK_uJ, jK_uR, jZ_uI, jZ_uJ, jZ_uR, jR_uI, jR_uJ, jr_uI, jr_uJ, jI_uJ, jI_uR, jJ_uI, jJ_uR, jI_uI_eq, jI_uI_ne, jJ_uJ_eq, jJ_uJ_ne, jSh_uI, jSh_uJ, jA_uI, jA_uJ, jA_uR, jI_uIf_eq, jI_uIf_ne, jJ_uIf, jR_uIf, jr_uIf, jZ_uIf, jSh_uIf, jA_uIf, ne_eq, not_false_eq_true, not_true_eq_false, reduceCtorEq, Nat.reduceEqDiff, forall_eq, true_and, and_true, true_implies, forall_const, implies_true, List.mem_cons, List.not_mem_nil, or_false, false_or, or_self, if_true, if_false, reduceIte, Nat.reduceAdd, Nat.reduceMul, Nat.reduceLT, false_implies, Decidable.not_not, bI_eq0, bI_eq1, upd_at, updL_at, Nat.succ_ne_zero, Int32.reduceToNatClampNeg, eq_self, i01, i10]
  rcases hw with ⟨rfl, rfl, rfl⟩ | ⟨rfl, rfl, rfl⟩ | ⟨rfl, rfl, rfl⟩ | ⟨rfl, rfl, rfl⟩ | ⟨rfl, rfl, rfl⟩
  · exact ⟨fun z => absurd z (by decide), fun _ => ⟨fun z => absurd z (by decide), fun _ => ⟨nI_in2 (n := 1) (by omega) (by omega), h⟩⟩⟩
  · exact ⟨fun z => absurd z (by decide), fun _ => ⟨fun z => absurd z (by decide), fun _ => ⟨nI_in2 (n := 2) (by omega) (by omega), h⟩⟩⟩
  · exact ⟨fun z => absurd z (by decide), fun _ => ⟨fun z => absurd z (by decide), fun _ => ⟨nI_in2 (n := 3) (by omega) (by omega), h⟩⟩⟩
  · exact ⟨fun z => absurd z (by decide), fun _ => ⟨fun z => absurd z (by decide), fun _ => ⟨nI_in2 (n := 5) (by omega) (by omega), h⟩⟩⟩
  · exact ⟨fun z => absurd z (by decide), fun _ => ⟨fun z => absurd z (by decide), fun _ => ⟨nI_in2 (n := 6) (by omega) (by omega), h⟩⟩⟩
theorem sX12_tell0 {Q : Int32 → JS → Prop} {v : Nat} (hv : v < 1000000) (hs : jSh S) (h : Q (nI v) (uI S 45 1 0)) : wX12_tell 45 (nI v) S Q := by
  unfold wX12_tell wX12_tell_6
  simp only [shA_45, shA_46, shZ_46, shR_45_2, shr_45_2, shR_45_3, shr_45_3, shR_45_4, shr_45_4, shR_45_5, shr_45_5, shR_45_7, shr_45_7, shR_45_16, shr_45_16, shR_45_18, shr_45_18, shR_45_19, shr_45_19, shR_45_21, shr_45_21, shR_45_22, shr_45_22, shR_45_25, shr_45_25, shR_45_26, shr_45_26, shR_45_28, shr_45_28, shR_45_29, shr_45_29, shR_45_33, shr_45_33, shR_45_34, shr_45_34, shR_45_35, shr_45_35, shR_45_36, shr_45_36, shR_45_37, shr_45_37, shR_45_38, shr_45_38, shR_45_39, shr_45_39, shR_45_40, shr_45_40, shR_45_42, shr_45_42, hs, jN_uI, jN_uJ, jN_uR, jK_uI, jK_uJ, jK_uR, jZ_uI, jZ_uJ, jZ_uR, jR_uI, jR_uJ, jr_uI, jr_uJ, jI_uJ, jI_uR, jJ_uI, jJ_uR, jI_uI_eq, jI_uI_ne, jJ_uJ_eq, jJ_uJ_ne, jSh_uI, jSh_uJ, jA_uI, jA_uJ, jA_uR, jI_uIf_eq, jI_uIf_ne, jJ_uIf, jR_uIf, jr_uIf, jZ_uIf, jSh_uIf, jA_uIf, ne_eq, not_false_eq_true, not_true_eq_false, reduceCtorEq, Nat.reduceEqDiff, forall_eq, true_and, and_true, true_implies, forall_const, implies_true, List.mem_cons, List.not_mem_nil, or_false, false_or, or_self, if_true, if_false, reduceIte, Nat.reduceAdd, Nat.reduceMul, Nat.reduceLT, false_implies, Decidable.not_not, bI_eq0, bI_eq1, upd_at, updL_at, Nat.succ_ne_zero, Int32.reduceToNatClampNeg, eq_self, i01, i10]
  have := nI_nn hv
  exact ⟨fun _ => ⟨fun _ => h, fun z => absurd this z⟩, fun z => absurd this z⟩
theorem sX11_accept {Q : Int32 → JS → Prop} {v : Int32} (hs : jSh S) (h : Q v (uI (uI S 0 12 0) 0 13 0)) : wX11_accept 0 v S Q := by
  unfold wX11_accept
  simp only [shA_0, shR_0_0, shr_0_0, shR_0_1, shr_0_1, shR_0_2, shr_0_2, shR_0_3, shr_0_3, shR_0_4, shr_0_4, shR_0_5, shr_0_5, shR_0_6, shr_0_6, shR_0_7, shr_0_7, shR_0_8, shr_0_8, shR_0_9, shr_0_9, hs, jN_uI, jN_uJ, jN_uR, jK_uI, jK_uJ, jK_uR, jZ_uI, jZ_uJ, jZ_uR, jR_uI, jR_uJ, jr_uI, jr_uJ, jI_uJ, jI_uR, jJ_uI, jJ_uR, jI_uI_eq, jI_uI_ne, jJ_uJ_eq, jJ_uJ_ne, jSh_uI, jSh_uJ, jA_uI, jA_uJ, jA_uR, jI_uIf_eq, jI_uIf_ne, jJ_uIf, jR_uIf, jr_uIf, jZ_uIf, jSh_uIf, jA_uIf, ne_eq, not_false_eq_true, not_true_eq_false, reduceCtorEq, Nat.reduceEqDiff, forall_eq, true_and, and_true, true_implies, forall_const, implies_true, List.mem_cons, List.not_mem_nil, or_false, false_or, or_self, if_true, if_false, reduceIte, Nat.reduceAdd, Nat.reduceMul, Nat.reduceLT, false_implies, Decidable.not_not, bI_eq0, bI_eq1, upd_at, updL_at, Nat.succ_ne_zero, Int32.reduceToNatClampNeg, eq_self, i01, i10]
  exact h
theorem RF.up {why : Int32} {i j : Nat} (hw : rfP why i j) (q : RF S) (f : jFr [0, 44, 45, 46] S S') (e0 : jI S' 0 12 = jI S' 45 1) (e1 : jI S' 44 = upd (jI S 44) i (jI S 44 i + 1)) (e2 : jI S' 46 = upd (jI S 46) j (jI S 46 j + 1)) : RF S' := by
  obtain ⟨⟨q1, q2, q3, q4, q5⟩, q6⟩ := q
  refine ⟨?_, e0⟩
  rw [e1, e2]
  rcases hw with ⟨_, rfl, rfl⟩ | ⟨_, rfl, rfl⟩ | ⟨_, rfl, rfl⟩ | ⟨_, rfl, rfl⟩ | ⟨_, rfl, rfl⟩ <;> simp only [upd_at, q1, q2, q3, q4, q5] <;> (first | done | exact ⟨rfl, rfl, rfl, rfl, rfl⟩ | decide | simp)
/-- both have refused: what the class did, then the model -/
theorem Inv.refused {why : Int32} (i j : Nat) (hw : rfP why i j) (hI : Inv S) : Inv (uI (uI (uI (uI (uI S 0 12 why) 44 i (jI S 44 i + 1)) 45 0 0) 45 1 why) 46 j (jI S 46 j + 1)) := by
  generalize e : uI (uI (uI (uI (uI S 0 12 why) 44 i (jI S 44 i + 1)) 45 0 0) 45 1 why) 46 j (jI S 46 j + 1) = S'
  have f : jFr [0, 44, 45, 46] S S' := by rw [← e]; exact ((((((jFr.refl _ _).uI (by decide)).uI (by decide)).uI (by decide)).uI (by decide)).uI (by decide))
  have k0 : jFk 0 [12] S S' := by rw [← e]; exact ((((((jFk.refl _ _ _).sI (by decide)).oI (by decide)).oI (by decide)).oI (by decide)).oI (by decide))
  have k5 : jFk 45 [0, 1] S S' := by rw [← e]; exact ((((((jFk.refl _ _ _).oI (by decide)).oI (by decide)).sI (by decide)).sI (by decide)).oI (by decide))
  obtain ⟨i1, i2, i3, i4, i5, i6, i7, i8, i9, i10, i11⟩ := hI
  refine ⟨f.sh.mpr i1, i2.fr f (by decide) (by decide), i3.fr f (by decide), i4.fr f (by decide) (k0.I 13 (by decide)), i5.fr f (by decide) (by rw [f.I 14 (by decide)]) (k5.I 8 (by decide)), i6.up hw f ?_ ?_ ?_, i7.fr (k0.I 10 (by decide)) (k5.I 6 (by decide)) (k0.I 11 (by decide)) (k5.I 13 (by decide)), i8.fr f (by decide) (k5.I 43 (by decide)), i9.fr f (by decide), i10.fr f (by decide) (by decide), i11.fr f⟩
  · rw [← e]; simp only [jN_uI, jN_uJ, jN_uR, jK_uI, jK_uJ, jK_uR, jZ_uI, jZ_uJ, jZ_uR, jR_uI, jR_uJ, jr_uI, jr_uJ, jI_uJ, jI_uR, jJ_uI, jJ_uR, jI_uI_eq, jI_uI_ne, jJ_uJ_eq, jJ_uJ_ne, jSh_uI, jSh_uJ, jA_uI, jA_uJ, jA_uR, jI_uIf_eq, jI_uIf_ne, jJ_uIf, jR_uIf, jr_uIf, jZ_uIf, jSh_uIf, jA_uIf, ne_eq, not_false_eq_true, not_true_eq_false, reduceCtorEq, Nat.reduceEqDiff, forall_eq, true_and, and_true, true_implies, forall_const, implies_true, List.mem_cons, List.not_mem_nil, or_false, false_or, or_self, if_true, if_false, reduceIte, Nat.reduceAdd, Nat.reduceMul, Nat.reduceLT, false_implies, Decidable.not_not, bI_eq0, bI_eq1, upd_at, updL_at, Nat.succ_ne_zero, Int32.reduceToNatClampNeg, eq_self, i01, i10]
  · rw [← e]; simp only [jN_uI, jN_uJ, jN_uR, jK_uI, jK_uJ, jK_uR, jZ_uI, jZ_uJ, jZ_uR, jR_uI, jR_uJ, jr_uI, jr_uJ, jI_uJ, jI_uR, jJ_uI, jJ_uR, jI_uI_eq, jI_uI_ne, jJ_uJ_eq, jJ_uJ_ne, jSh_uI, jSh_uJ, jA_uI, jA_uJ, jA_uR, jI_uIf_eq, jI_uIf_ne, jJ_uIf, jR_uIf, jr_uIf, jZ_uIf, jSh_uIf, jA_uIf, ne_eq, not_false_eq_true, not_true_eq_false, reduceCtorEq, Nat.reduceEqDiff, forall_eq, true_and, and_true, true_implies, forall_const, implies_true, List.mem_cons, List.not_mem_nil, or_false, false_or, or_self, if_true, if_false, reduceIte, Nat.reduceAdd, Nat.reduceMul, Nat.reduceLT, false_implies, Decidable.not_not, bI_eq0, bI_eq1, upd_at, updL_at, Nat.succ_ne_zero, Int32.reduceToNatClampNeg, eq_self, i01, i10]
  · rw [← e]; simp only [jN_uI, jN_uJ, jN_uR, jK_uI, jK_uJ, jK_uR, jZ_uI, jZ_uJ, jZ_uR, jR_uI, jR_uJ, jr_uI, jr_uJ, jI_uJ, jI_uR, jJ_uI, jJ_uR, jI_uI_eq, jI_uI_ne, jJ_uJ_eq, jJ_uJ_ne, jSh_uI, jSh_uJ, jA_uI, jA_uJ, jA_uR, jI_uIf_eq, jI_uIf_ne, jJ_uIf, jR_uIf, jr_uIf, jZ_uIf, jSh_uIf, jA_uIf, ne_eq, not_false_eq_true, not_true_eq_false, reduceCtorEq, Nat.reduceEqDiff, forall_eq, true_and, and_true, true_implies, forall_const, implies_true, List.mem_cons, List.not_mem_nil, or_false, false_or, or_self, if_true, if_false, reduceIte, Nat.reduceAdd, Nat.reduceMul, Nat.reduceLT, false_implies, Decidable.not_not, bI_eq0, bI_eq1, upd_at, updL_at, Nat.succ_ne_zero, Int32.reduceToNatClampNeg, eq_self, i01, i10]
end IFR
/-! numbers that calls are given -/
theorem sX11_isNight {S : JS} {Q : Int32 → JS → Prop} {x : Int32} (h1 : ∀ n, n < 60 → x = nI n → Q 1 S) (h0 : ¬ (0 ≤ x ∧ x ≤ 59) → Q 0 S) : wX11_isNight x S Q := by
  unfold wX11_isNight
  refine ⟨fun q => h0 (by lia), fun q => ⟨fun q2 => h0 (by lia), fun q2 => ?_⟩⟩
  obtain ⟨n, hn, rfl⟩ := nI_of2 (M := 59) (n := 59) rfl q (by lia)
  exact h1 n (by omega) rfl
theorem sX12_isNight {S : JS} {Q : Int32 → JS → Prop} {x : Int32} (h1 : ∀ n, n < 60 → x = nI n → Q 1 S) (h0 : ¬ (0 ≤ x ∧ x ≤ 59) → Q 0 S) : wX12_isNight x S Q := by
  unfold wX12_isNight
  refine sX12_in' 0 59 rfl rfl (fun q1 q2 => ⟨Or.inr rfl, ?_⟩) (fun q => ⟨Or.inl rfl, h0 q⟩)
  obtain ⟨n, hn, rfl⟩ := nI_of2 (M := 59) (n := 59) rfl (show ¬ x < 0 by lia) q2
  exact h1 n (by omega) rfl
theorem sX11_isBit {S : JS} {Q : Int32 → JS → Prop} {x : Int32} (h1 : ∀ n, n < 2 → x = nI n → Q 1 S) (h0 : ¬ (0 ≤ x ∧ x ≤ 1) → Q 0 S) : wX11_isBit x S Q := by
  unfold wX11_isBit
  exact ⟨fun q => h1 0 (by omega) q, fun q => ⟨fun q2 => h0 (by lia), fun q2 => h1 1 (by omega) q2⟩⟩
theorem in01 {x : Int32} (h : 0 ≤ x) (h2 : x ≤ 1) : ∃ n, n < 2 ∧ x = nI n := by
  obtain ⟨n, hn, rfl⟩ := nI_of2 (M := 1) (n := 1) rfl (show ¬ x < 0 by lia) h2
  exact ⟨n, by omega, rfl⟩
theorem in59 {x : Int32} (h : 0 ≤ x) (h2 : x ≤ 59) : ∃ n, n < 60 ∧ x = nI n := by
  obtain ⟨n, hn, rfl⟩ := nI_of2 (M := 59) (n := 59) rfl (show ¬ x < 0 by lia) h2
  exact ⟨n, by omega, rfl⟩
theorem notin {x a b : Int32} (h : ¬ (a ≤ x ∧ x ≤ b)) (h1 : a ≤ x) (h2 : x ≤ b) : False := h ⟨h1, h2⟩
theorem ex59 {n : Nat} (h : n < 60) : 0 ≤ nI n ∧ nI n ≤ 59 := by rw [li_0, li_59, nI_le' (by omega) (by omega), nI_le' (by omega) (by omega)]; omega
theorem ex1 {n : Nat} (h : n < 2) : 0 ≤ nI n ∧ nI n ≤ 1 := by rw [li_0, li_1, nI_le' (by omega) (by omega), nI_le' (by omega) (by omega)]; omega
/-- a rock, for both -/
theorem inR {x : Int32} {R : Nat} (hR : R ≤ 9) (h : 0 ≤ x) (h2 : x < nI R) : ∃ r, r < R ∧ x = nI r := by
  obtain ⟨n, hn, rfl⟩ := nI_of (show ¬ x < 0 by lia)
  exact ⟨n, (nI_ltI hn (by omega)).mp h2, rfl⟩
theorem sX9_hasRock' {S : JS} {Q : Int32 → JS → Prop} {x : Int32} (hs : jSh S) (hm : MW S) (h1 : ∀ r, r < gR (jI S 47) → x = nI r → Q 1 S) (h0 : ¬ (0 ≤ x ∧ x < jI S 47 0) → Q 0 S) : wX9_hasRock 1 x S Q := by
  obtain ⟨R1, R2, R3⟩ := hm.1.1
  have e0 : jI S 1 0 = jI S 47 0 := hm.2.1.1
  unfold wX9_hasRock
  simp only [shA_1, shR_1_4, shr_1_4, shR_1_5, shr_1_5, shR_1_6, shr_1_6, shR_1_9, shr_1_9, shR_1_11, shr_1_11, hs, e0, ne_eq, not_false_eq_true, not_true_eq_false, reduceCtorEq, Nat.reduceEqDiff, forall_eq, true_and, and_true, true_implies, forall_const, implies_true, List.mem_cons, List.not_mem_nil, or_false, false_or, or_self, if_true, if_false, reduceIte, Nat.reduceAdd, Nat.reduceMul, Nat.reduceLT, false_implies, Decidable.not_not, bI_eq0, bI_eq1, upd_at, updL_at, Nat.succ_ne_zero, Int32.reduceToNatClampNeg, eq_self, i01, i10]
  refine ⟨fun z => h0 (by lia), fun z => ⟨fun z2 => h0 (by lia), fun z2 => ?_⟩⟩
  rw [R3] at z2
  obtain ⟨r, r1, r2⟩ := inR R2 (x := x) (by lia) (by lia)
  exact h1 r r1 r2
theorem sX12_isRock {S : JS} {Q : Int32 → JS → Prop} {x : Int32} (hs : jSh S) (hm : MW S) (h1 : ∀ r, r < gR (jI S 47) → x = nI r → Q 1 S) (h0 : ¬ (0 ≤ x ∧ x < jI S 47 0) → Q 0 S) : wX12_isRock 45 x S Q := by
  obtain ⟨R1, R2, R3⟩ := hm.1.1
  unfold wX12_isRock
  refine ⟨shA_45 hs, sX12_rocks hs ?_⟩
  rw [R3] at h0 ⊢
  refine sX12_in' 0 (nI (gR (jI S 47) - 1)) rfl ?_ (fun q1 q2 => ⟨Or.inr rfl, ?_⟩) (fun q => ⟨Or.inl rfl, h0 (fun z => ?_)⟩)
  · rw [nI_toL (by omega), nI_toL (by omega), show (1 : Int64) = lN 1 from rfl, lN_sub (by omega)]
  · obtain ⟨n, hn, rfl⟩ := nI_of (show ¬ x < 0 by lia)
    have := (nI_leI hn (by omega)).mp q2
    exact h1 n (by omega) rfl
  · obtain ⟨n, hn, rfl⟩ := nI_of (show ¬ x < 0 by lia)
    have := (nI_ltI hn (by omega)).mp z.2
    exact q ⟨z.1, (nI_leI hn (by omega)).mpr (by omega)⟩
