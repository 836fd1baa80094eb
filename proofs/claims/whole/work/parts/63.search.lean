/-- the model's search, from its start: the sum, the refusals -/
theorem ms_start {S : JS} {Q : Int64 → JS → Prop} {W : Nat → Nat} {x y : Int32} (hs : jSh S) (hW : ∀ c, c < 12 → W c ≤ 99 ∧ jI S 47 (188 + c) = nI (W c)) (h0 : (¬ (0 ≤ x ∧ x ≤ 6) ∨ ¬ (0 ≤ y ∧ y ≤ 2) ∨ gWh W 12 = 0 ∨ (y = 2 ∧ x = 0)) → Q (-1) S) (h1 : (0 ≤ x ∧ x ≤ 6) → (0 ≤ y ∧ y ≤ 2) → ¬ gWh W 12 = 0 → ¬ (y = 2 ∧ x = 0) → wX12_search_45 45 x y (lN (gWh W 12)) S Q) : wX12_search_7 45 x y 0 0 S Q := by
  have hb : ∀ c, c ≤ 12 → gWh W c ≤ 99 * c := by
    intro c
    induction c with
    | zero => intro _; exact Nat.le_refl _
    | succ c ih => intro hc; have := ih (by omega); have := (hW c (by omega)).1; rw [gWh]; omega
  have hb12 := hb 12 (Nat.le_refl _)
  unfold wX12_search_7
  refine jLoop.cnt 12 (fun c q => q = (45, x, y, lN (gWh W c), nI c, S)) 0 (by omega) ?_ rfl
  rintro c _ hc rfl
  unfold bX12_search_7
  simp only [shA_45, shA_47, shZ_47, shR_45_2, shr_45_2, shR_45_3, shr_45_3, shR_45_4, shr_45_4, shR_45_5, shr_45_5, shR_45_7, shr_45_7, shR_45_16, shr_45_16, shR_45_18, shr_45_18, shR_45_19, shr_45_19, shR_45_21, shr_45_21, shR_45_22, shr_45_22, shR_45_25, shr_45_25, shR_45_26, shr_45_26, shR_45_28, shr_45_28, shR_45_29, shr_45_29, shR_45_33, shr_45_33, shR_45_34, shr_45_34, shR_45_35, shr_45_35, shR_45_36, shr_45_36, shR_45_37, shr_45_37, shR_45_38, shr_45_38, shR_45_39, shr_45_39, shR_45_40, shr_45_40, shR_45_42, shr_45_42, hs, lg_cmp_eq, ne_eq, not_false_eq_true, not_true_eq_false, reduceCtorEq, Nat.reduceEqDiff, forall_eq, true_and, and_true, true_implies, forall_const, implies_true, List.mem_cons, List.not_mem_nil, or_false, false_or, or_self, if_true, if_false, reduceIte, Nat.reduceAdd, Nat.reduceMul, Nat.reduceLT, false_implies, Decidable.not_not, bI_eq0, bI_eq1, upd_at, updL_at, Nat.succ_ne_zero, Int32.reduceToNatClampNeg, eq_self, i01, i10]
  simp (disch := omega) only [li_12, li_188, li_1, nI_add, nI_inT, nI_tn, nI_le', ne_eq, not_false_eq_true, not_true_eq_false, reduceCtorEq, Nat.reduceEqDiff, forall_eq, true_and, and_true, true_implies, forall_const, implies_true, List.mem_cons, List.not_mem_nil, or_false, false_or, or_self, if_true, if_false, reduceIte, Nat.reduceAdd, Nat.reduceMul, Nat.reduceLT, false_implies, Decidable.not_not, bI_eq0, bI_eq1, upd_at, updL_at, Nat.succ_ne_zero, Int32.reduceToNatClampNeg, eq_self, i01, i10]
  refine ⟨fun z => ?_, fun z => ?_⟩
  · have : c = 12 := by omega
    subst this
    refine sX12_in' 0 6 rfl rfl (fun x1 x2 => ⟨fun q => absurd q (by decide), fun _ => ?_⟩) (fun hx => ⟨fun _ => h0 (Or.inl hx), fun q => absurd rfl q⟩)
    refine sX12_in' 0 2 rfl rfl (fun y1 y2 => ⟨fun q => absurd q (by decide), fun _ => ?_⟩) (fun hx => ⟨fun _ => h0 (Or.inr (Or.inl hx)), fun q => absurd rfl q⟩)
    rw [show (0 : Int64) = lN 0 from rfl, lN_eq' (by omega) (by omega)]
    refine ⟨fun q => h0 (Or.inr (Or.inr (Or.inl q))), fun q => ⟨fun q2 => h1 ⟨x1, x2⟩ ⟨y1, y2⟩ q (fun w => q2 w.1), fun q2 => ⟨fun q3 => h1 ⟨x1, x2⟩ ⟨y1, y2⟩ q (fun w => q3 w.2), fun q3 => h0 (Or.inr (Or.inr (Or.inr ⟨q2, q3⟩)))⟩⟩⟩
  · obtain ⟨w1, w2⟩ := hW c (by omega)
    rw [w2, nI_toL (by omega), lN_add]
    exact ⟨by omega, by rw [gWh]⟩
theorem q_search {S : JS} {Q : Int64 → JS → Prop} {x y : Int32} (hI : Inv S) (hq : ∀ r S1, MdlL (wX12_search 45 x y) S r S1 → Q r S1) : wX11_search 0 x y S Q := by
  have hs := hI.1
  have hm := hI.2.1
  obtain ⟨W, s, s1, s2, s3, s4, hW⟩ := hm.sea
  have no : (¬ (0 ≤ x ∧ x ≤ 6) ∨ ¬ (0 ≤ y ∧ y ≤ 2)) → Q (-1) S := by
    intro hx
    refine hq _ _ ⟨hs, fun Q' hq' => ?_⟩
    unfold wX12_search
    simp only [shA_45 hs, jN_uI, jN_uJ, jN_uR, jK_uI, jK_uJ, jK_uR, jZ_uI, jZ_uJ, jZ_uR, jR_uI, jR_uJ, jr_uI, jr_uJ, jI_uJ, jI_uR, jJ_uI, jJ_uR, jI_uI_eq, jI_uI_ne, jJ_uJ_eq, jJ_uJ_ne, jSh_uI, jSh_uJ, jA_uI, jA_uJ, jA_uR, jI_uIf_eq, jI_uIf_ne, jJ_uIf, jR_uIf, jr_uIf, jZ_uIf, jSh_uIf, jA_uIf, ne_eq, not_false_eq_true, not_true_eq_false, reduceCtorEq, Nat.reduceEqDiff, forall_eq, true_and, and_true, true_implies, forall_const, implies_true, List.mem_cons, List.not_mem_nil, or_false, false_or, or_self, if_true, if_false, reduceIte, Nat.reduceAdd, Nat.reduceMul, Nat.reduceLT, false_implies, Decidable.not_not, bI_eq0, bI_eq1, upd_at, updL_at, Nat.succ_ne_zero, Int32.reduceToNatClampNeg, eq_self, i01, i10]
    have hI0 := hI.t0
    refine ms_start (W := W) hI0.1 (fun c hc => ⟨(hW c hc).1, by simp only [jN_uI, jN_uJ, jN_uR, jK_uI, jK_uJ, jK_uR, jZ_uI, jZ_uJ, jZ_uR, jR_uI, jR_uJ, jr_uI, jr_uJ, jI_uJ, jI_uR, jJ_uI, jJ_uR, jI_uI_eq, jI_uI_ne, jJ_uJ_eq, jJ_uJ_ne, jSh_uI, jSh_uJ, jA_uI, jA_uJ, jA_uR, jI_uIf_eq, jI_uIf_ne, jJ_uIf, jR_uIf, jr_uIf, jZ_uIf, jSh_uIf, jA_uIf, ne_eq, not_false_eq_true, not_true_eq_false, reduceCtorEq, Nat.reduceEqDiff, forall_eq, true_and, and_true, true_implies, forall_const, implies_true, List.mem_cons, List.not_mem_nil, or_false, false_or, or_self, if_true, if_false, reduceIte, Nat.reduceAdd, Nat.reduceMul, Nat.reduceLT, false_implies, Decidable.not_not, bI_eq0, bI_eq1, upd_at, updL_at, Nat.succ_ne_zero, Int32.reduceToNatClampNeg, eq_self, i01, i10]; exact (hW c hc).2.1⟩) (fun _ => hq' _ hI0 (Nat.le_add_right _ _)) (fun h1 h2 _ _ => ?_)
    rcases hx with hx | hx
    · exact absurd h1 hx
    · exact absurd h2 hx
  unfold wX11_search
  refine ⟨fun h => no (Or.inl (fun w => by have := w.1; lia)), fun h1 => ⟨fun h => no (Or.inl (fun w => by have := w.2; lia)), fun h2 => ⟨fun h => no (Or.inr (fun w => by have := w.1; lia)), fun h3 => ⟨fun h4 => ?_, fun h4 => no (Or.inr (fun w => h4 w.2))⟩⟩⟩⟩
  obtain ⟨n, hn, rfl⟩ := nI_of2 (M := 6) (n := 6) rfl h1 (by lia)
  obtain ⟨b, hb, rfl⟩ := nI_of2 (M := 2) (n := 2) rfl h3 h4
  have hx6 : 0 ≤ nI n ∧ nI n ≤ 6 := ⟨nI_nn (by omega), (nI_le' (b := 6) (by omega) (by omega)).mpr hn⟩
  have hy2 : 0 ≤ nI b ∧ nI b ≤ 2 := ⟨nI_nn (by omega), (nI_le' (b := 2) (by omega) (by omega)).mpr hb⟩
  simp only [shA_0, shA_1, shA_39, shR_0_0, shr_0_0, shR_0_1, shr_0_1, shR_0_2, shr_0_2, shR_0_3, shr_0_3, shR_0_4, shr_0_4, shR_0_5, shr_0_5, shR_0_6, shr_0_6, shR_0_7, shr_0_7, shR_0_8, shr_0_8, shR_0_9, shr_0_9, shR_1_4, shr_1_4, shR_1_5, shr_1_5, shR_1_6, shr_1_6, shR_1_9, shr_1_9, shR_1_11, shr_1_11, shR_39_0, shr_39_0, hs, ne_eq, not_false_eq_true, not_true_eq_false, reduceCtorEq, Nat.reduceEqDiff, forall_eq, true_and, and_true, true_implies, forall_const, implies_true, List.mem_cons, List.not_mem_nil, or_false, false_or, or_self, if_true, if_false, reduceIte, Nat.reduceAdd, Nat.reduceMul, Nat.reduceLT, false_implies, Decidable.not_not, bI_eq0, bI_eq1, upd_at, updL_at, Nat.succ_ne_zero, Int32.reduceToNatClampNeg, eq_self, i01, i10]
  refine sX4_lookTimes (W := W) (s := s) hs (fun c hc => ⟨(hW c hc).1, (hW c hc).2.2⟩) s2 s4 hn (fun S1 f1 l1 v1 v2 => ?_)
  have hs1 := f1.sh.mpr hs
  have e47 : jI S1 47 = jI S 47 := f1.I 47 (by decide)
  have hI1 : Inv S1 := hI.c (f1.mono (by decide)) (jFk.of f1 (by decide)) (hI.2.2.1.fr f1 (by decide)) (hI.2.2.2.1.fr f1 (by decide) (by rw [f1.I 0 (by decide)]))
  have hp := p100 n (by omega)
  have hb12 : gWh W 12 ≤ 1188 := by
    have w := fun c hc => (hW c hc).1
    have := w 0 (by omega); have := w 1 (by omega); have := w 2 (by omega); have := w 3 (by omega); have := w 4 (by omega); have := w 5 (by omega); have := w 6 (by omega); have := w 7 (by omega); have := w 8 (by omega); have := w 9 (by omega); have := w 10 (by omega); have := w 11 (by omega)
    simp only [gWh]; omega
  -- the model
  have road : ∀ r : Int64, (gWh W 12 = 0 → r = -1) → (¬ gWh W 12 = 0 → (b = 0 → r = lN (gFd W s n)) ∧ (b = 1 → r = lN (gWh W 12 * 100 ^ n)) ∧ (b = 2 → (n = 0 → r = -1) ∧ ∀ k, n = k + 1 → r = (nI (bst (gLk W s k) 11)).toInt64)) → Q r S1 := by
    intro r r1 r2
    refine hq _ _ ⟨hs1, fun Q' hq' => ?_⟩
    unfold wX12_search
    simp only [shA_45 hs1, jN_uI, jN_uJ, jN_uR, jK_uI, jK_uJ, jK_uR, jZ_uI, jZ_uJ, jZ_uR, jR_uI, jR_uJ, jr_uI, jr_uJ, jI_uJ, jI_uR, jJ_uI, jJ_uR, jI_uI_eq, jI_uI_ne, jJ_uJ_eq, jJ_uJ_ne, jSh_uI, jSh_uJ, jA_uI, jA_uJ, jA_uR, jI_uIf_eq, jI_uIf_ne, jJ_uIf, jR_uIf, jr_uIf, jZ_uIf, jSh_uIf, jA_uIf, ne_eq, not_false_eq_true, not_true_eq_false, reduceCtorEq, Nat.reduceEqDiff, forall_eq, true_and, and_true, true_implies, forall_const, implies_true, List.mem_cons, List.not_mem_nil, or_false, false_or, or_self, if_true, if_false, reduceIte, Nat.reduceAdd, Nat.reduceMul, Nat.reduceLT, false_implies, Decidable.not_not, bI_eq0, bI_eq1, upd_at, updL_at, Nat.succ_ne_zero, Int32.reduceToNatClampNeg, eq_self, i01, i10]
    have hI0 : Inv (uI S1 45 0 0) := hI1.m ((jFr.refl _ _).uI (by decide)) ((jFk.refl _ _ _).sI (by decide))
    generalize eM : uI S1 45 0 0 = M at hI0 ⊢
    have eMI : ∀ h, h ≠ 45 → jI M h = jI S1 h := fun h hh => by rw [← eM]; exact jI_uI_ne hh
    have eMJ : jJ M = jJ S1 := by rw [← eM]; rfl
    have eMN : jN M = jN S1 := by rw [← eM]; rfl
    have hsM := hI0.1
    have hmM := hI0.2.1
    have eM47 : jI M 47 = jI S 47 := by rw [eMI 47 (by decide), e47]
    have hWM : ∀ c, c < 12 → W c ≤ 99 ∧ jI M 47 (188 + c) = nI (W c) := fun c hc => ⟨(hW c hc).1, by rw [eM47]; exact (hW c hc).2.1⟩
    refine ms_start (W := W) hsM hWM (fun hx => ?_) (fun _ _ g1 g2 => ?_)
    · have : r = -1 := by
        by_cases g : gWh W 12 = 0
        · exact r1 g
        · rcases hx with hx | hx | hx | hx
          · exact absurd hx6 hx
          · exact absurd hy2 hx
          · exact absurd hx g
          · have b2 : b = 2 := (nI_eq' (b := 2) (by omega) (by omega)).mp hx.1
            have n0 : n = 0 := (nI_eq' (b := 0) (by omega) (by omega)).mp hx.2
            exact ((r2 g).2.2 b2).1 n0
      rw [← this]; exact hq' M hI0 (by rw [eMN, f1.N]; omega)
    · obtain ⟨q0, q1, q2⟩ := r2 g1
      refine ms_looks (W := W) (s := s) (n := n) hsM hmM hWM s2 (by rw [eM47]; exact s3) hn (fun S2 v f2 u1 u2 => ?_)
      have fin := hq' S2 (hI0.m (f2.mono (by decide)) (jFk.of f2 (by decide))) (by rw [f2.N, eMN, f1.N]; omega)
      rw [li_0, li_1, nI_eq' (by omega) (by omega), nI_eq' (by omega) (by omega)]
      refine ⟨fun w => ⟨fun w2 => ?_, fun w2 => ?_⟩, fun w => ?_⟩
      · have q2 := q2 (by omega)
        rcases Nat.eq_zero_or_pos n with z | z
        · rw [q2.1 z] at fin; rw [u1 z]; exact fin
        · obtain ⟨k, rfl⟩ : ∃ k, n = k + 1 := ⟨n - 1, by omega⟩
          rw [q2.2 k rfl] at fin; rw [u2 k rfl]; exact fin
      · rw [q1 w2] at fin; exact fin
      · rw [q0 w] at fin; exact fin
  obtain ⟨l2, l3, l4⟩ := l1
  simp only [shA_0, shA_39, shR_0_0, shr_0_0, shR_0_1, shr_0_1, shR_0_2, shr_0_2, shR_0_3, shr_0_3, shR_0_4, shr_0_4, shR_0_5, shr_0_5, shR_0_6, shr_0_6, shR_0_7, shr_0_7, shR_0_8, shr_0_8, shR_0_9, shr_0_9, shR_39_0, shr_39_0, hs1, lg_cmp_eq, l3, l4, ne_eq, not_false_eq_true, not_true_eq_false, reduceCtorEq, Nat.reduceEqDiff, forall_eq, true_and, and_true, true_implies, forall_const, implies_true, List.mem_cons, List.not_mem_nil, or_false, false_or, or_self, if_true, if_false, reduceIte, Nat.reduceAdd, Nat.reduceMul, Nat.reduceLT, false_implies, Decidable.not_not, bI_eq0, bI_eq1, upd_at, updL_at, Nat.succ_ne_zero, Int32.reduceToNatClampNeg, eq_self, i01, i10]
  have h99 : gWh W 12 * 100 ^ n < 9000000000000000000 := by
    refine Nat.lt_of_le_of_lt (Nat.mul_le_mul hb12 (Nat.pow_le_pow_right (n := 100) (by omega) hn)) (by decide)
  rw [show (0 : Int64) = lN 0 from rfl, pk_lEQ (by omega) (by omega), li_0, li_1, nI_eq' (by omega) (by omega), nI_eq' (by omega) (by omega)]
  have z0 : gWh W 12 * 100 ^ n = 0 ↔ gWh W 12 = 0 := by
    rw [Nat.mul_eq_zero]
    refine ⟨fun w => w.elim id (fun y => absurd y (by omega)), Or.inl⟩
  rw [z0]
  refine ⟨fun g => ⟨fun g2 => ⟨fun g3 => road _ (fun w => absurd w g) (fun _ => ⟨fun w => by omega, fun w => by omega, fun _ => ⟨fun w => by rw [v1 w]; rfl, fun k w => by rw [v2 k w]⟩⟩), fun g3 => road _ (fun w => absurd w g) (fun _ => ⟨fun w => by omega, fun _ => rfl, fun w => by omega⟩)⟩, fun g2 => road _ (fun w => absurd w g) (fun _ => ⟨fun _ => rfl, fun w => by omega, fun w => by omega⟩)⟩, fun g => road _ (fun _ => rfl) (fun w => absurd g w)⟩
