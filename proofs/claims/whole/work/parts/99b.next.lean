/-! THE MODEL CUTS A TOKEN -/
def BY (M : JS) (t : Nat) (bb : Nat → Nat) : Prop := (∀ j, j < t → jI M 50 j = nI (bb j) ∧ bb j < 256) ∧ t ≤ 400
section NEXT
variable {t p : Nat} {bb : Nat → Nat} {M M0 M1 : JS} {Q : JS → Prop}
theorem sX12_isSmall {Q : Int32 → JS → Prop} {b : Nat} (hb : b < 256) (h1 : cls b = 1 → Q 1 M) (h0 : ¬ cls b = 1 → Q 0 M) : wX12_isSmall (nI b) M Q := by
  unfold wX12_isSmall
  rw [show (97 : Int32) = nI 97 from rfl, show (122 : Int32) = nI 122 from rfl, nI_lt' (by omega) (by omega), nI_lt' (by omega) (by omega)]
  unfold cls at h1 h0
  refine ⟨fun z => h0 ?_, fun z => ⟨fun z2 => h0 ?_, fun z2 => h1 ?_⟩⟩
  · rw [if_neg (by omega)]; split <;> omega
  · rw [if_neg (by omega)]; split <;> omega
  · rw [if_pos (by omega)]
theorem sX12_isDigit {Q : Int32 → JS → Prop} {b : Nat} (hb : b < 256) (h1 : cls b = 2 → Q 1 M) (h0 : ¬ cls b = 2 → Q 0 M) : wX12_isDigit (nI b) M Q := by
  unfold wX12_isDigit
  rw [show (48 : Int32) = nI 48 from rfl, show (57 : Int32) = nI 57 from rfl, nI_lt' (by omega) (by omega), nI_lt' (by omega) (by omega)]
  unfold cls at h1 h0
  refine ⟨fun z => h0 ?_, fun z => ⟨fun z2 => h0 ?_, fun z2 => h1 ?_⟩⟩
  · split
    · omega
    · rw [if_neg (by omega)]; omega
  · split
    · omega
    · rw [if_neg (by omega)]; omega
  · rw [if_neg (by omega), if_pos (by omega)]
theorem n4_roll (h : ∀ K : Nat → JS → Prop, (∀ M', wX12_next_4 45 M' Q → K 45 M') → bX12_next_4 K 45 M Q) : wX12_next_4 45 M Q := by
  unfold wX12_next_4
  exact jLoop.roll (h _ (fun _ h => h))
theorem n76_roll (h : ∀ K : Nat → JS → Prop, (∀ M', wX12_next_76 45 M' Q → K 45 M') → bX12_next_76 K 45 M Q) : wX12_next_76 45 M Q := by
  unfold wX12_next_76
  exact jLoop.roll (h _ (fun _ h => h))
theorem n123_roll (h : ∀ K : Nat → JS → Prop, (∀ M', wX12_next_123 45 M' Q → K 45 M') → bX12_next_123 K 45 M Q) : wX12_next_123 45 M Q := by
  unfold wX12_next_123
  exact jLoop.roll (h _ (fun _ h => h))
/-- where the cutting stands: the token from p on, x of its signs passed -/
def NS (M0 M : JS) (t p x s : Nat) (w : Int64) : Prop := jFr [45] M0 M ∧ jFk 45 [9, 10, 11, 12] M0 M ∧ jI M 45 9 = nI p ∧ jI M 45 10 = nI (p + x) ∧ jI M 45 11 = nI s ∧ jJ M 45 12 = w
theorem NS.step {x s : Nat} {w w' : Int64} (h : NS M0 M t p x s w) (hx : p + x < 1000) : NS M0 (uI (uJ M 45 12 w') 45 10 (nI (p + (x + 1)))) t p (x + 1) s w' := by
  obtain ⟨f, k, g9, g10, g11, g12⟩ := h
  refine ⟨(f.uJ (by decide)).uI (by decide), (k.sJ (by decide)).sI (by decide), ?_, ?_, ?_, ?_⟩
  · simp only [jN_uI, jN_uJ, jN_uR, jK_uI, jK_uJ, jK_uR, jZ_uI, jZ_uJ, jZ_uR, jR_uI, jR_uJ, jr_uI, jr_uJ, jI_uJ, jI_uR, jJ_uI, jJ_uR, jI_uI_eq, jI_uI_ne, jJ_uJ_eq, jJ_uJ_ne, jSh_uI, jSh_uJ, jA_uI, jA_uJ, jA_uR, jI_uIf_eq, jI_uIf_ne, jJ_uIf, jR_uIf, jr_uIf, jZ_uIf, jSh_uIf, jA_uIf, ne_eq, not_false_eq_true, not_true_eq_false, reduceCtorEq, Nat.reduceEqDiff, forall_eq, true_and, and_true, true_implies, forall_const, implies_true, List.mem_cons, List.not_mem_nil, or_false, false_or, or_self, if_true, if_false, reduceIte, Nat.reduceAdd, Nat.reduceMul, Nat.reduceLT, false_implies, Decidable.not_not, bI_eq0, bI_eq1, upd_at, updL_at, Nat.succ_ne_zero, Int32.reduceToNatClampNeg, eq_self, i01, i10]; exact g9
  · simp only [jN_uI, jN_uJ, jN_uR, jK_uI, jK_uJ, jK_uR, jZ_uI, jZ_uJ, jZ_uR, jR_uI, jR_uJ, jr_uI, jr_uJ, jI_uJ, jI_uR, jJ_uI, jJ_uR, jI_uI_eq, jI_uI_ne, jJ_uJ_eq, jJ_uJ_ne, jSh_uI, jSh_uJ, jA_uI, jA_uJ, jA_uR, jI_uIf_eq, jI_uIf_ne, jJ_uIf, jR_uIf, jr_uIf, jZ_uIf, jSh_uIf, jA_uIf, ne_eq, not_false_eq_true, not_true_eq_false, reduceCtorEq, Nat.reduceEqDiff, forall_eq, true_and, and_true, true_implies, forall_const, implies_true, List.mem_cons, List.not_mem_nil, or_false, false_or, or_self, if_true, if_false, reduceIte, Nat.reduceAdd, Nat.reduceMul, Nat.reduceLT, false_implies, Decidable.not_not, bI_eq0, bI_eq1, upd_at, updL_at, Nat.succ_ne_zero, Int32.reduceToNatClampNeg, eq_self, i01, i10]
  · simp only [jN_uI, jN_uJ, jN_uR, jK_uI, jK_uJ, jK_uR, jZ_uI, jZ_uJ, jZ_uR, jR_uI, jR_uJ, jr_uI, jr_uJ, jI_uJ, jI_uR, jJ_uI, jJ_uR, jI_uI_eq, jI_uI_ne, jJ_uJ_eq, jJ_uJ_ne, jSh_uI, jSh_uJ, jA_uI, jA_uJ, jA_uR, jI_uIf_eq, jI_uIf_ne, jJ_uIf, jR_uIf, jr_uIf, jZ_uIf, jSh_uIf, jA_uIf, ne_eq, not_false_eq_true, not_true_eq_false, reduceCtorEq, Nat.reduceEqDiff, forall_eq, true_and, and_true, true_implies, forall_const, implies_true, List.mem_cons, List.not_mem_nil, or_false, false_or, or_self, if_true, if_false, reduceIte, Nat.reduceAdd, Nat.reduceMul, Nat.reduceLT, false_implies, Decidable.not_not, bI_eq0, bI_eq1, upd_at, updL_at, Nat.succ_ne_zero, Int32.reduceToNatClampNeg, eq_self, i01, i10]; exact g11
  · simp only [jN_uI, jN_uJ, jN_uR, jK_uI, jK_uJ, jK_uR, jZ_uI, jZ_uJ, jZ_uR, jR_uI, jR_uJ, jr_uI, jr_uJ, jI_uJ, jI_uR, jJ_uI, jJ_uR, jI_uI_eq, jI_uI_ne, jJ_uJ_eq, jJ_uJ_ne, jSh_uI, jSh_uJ, jA_uI, jA_uJ, jA_uR, jI_uIf_eq, jI_uIf_ne, jJ_uIf, jR_uIf, jr_uIf, jZ_uIf, jSh_uIf, jA_uIf, ne_eq, not_false_eq_true, not_true_eq_false, reduceCtorEq, Nat.reduceEqDiff, forall_eq, true_and, and_true, true_implies, forall_const, implies_true, List.mem_cons, List.not_mem_nil, or_false, false_or, or_self, if_true, if_false, reduceIte, Nat.reduceAdd, Nat.reduceMul, Nat.reduceLT, false_implies, Decidable.not_not, bI_eq0, bI_eq1, upd_at, updL_at, Nat.succ_ne_zero, Int32.reduceToNatClampNeg, eq_self, i01, i10]
theorem nx_dig (hs : jSh M0) (hb : BY M0 t bb) (h8 : jI M0 45 8 = nI t) (hp : p < t) (c : cls (bb p) = 2) (hQ : ∀ M, NS M0 M t p (tnd t bb p - p) 2 (lN (mvF (fun k => bb (p + k)) (tnd t bb p - p))) → Q M) : ∀ m x M, x + m = tnd t bb p - p → NS M0 M t p x 2 (lN (mvF (fun k => bb (p + k)) x)) → wX12_next_123 45 M Q := by
  obtain ⟨a1, a2, a3, a4, a5⟩ := tnd_spec (bb := bb) hp
  obtain ⟨hby, ht4⟩ := id hb
  intro m
  induction m with
  | zero =>
    intro x M e0 h
    have ex : x = tnd t bb p - p := by omega
    subst ex
    refine n123_roll (fun K _ => ?_)
    obtain ⟨f, k, g9, g10, g11, g12⟩ := id h
    have hs1 := f.sh.mpr hs
    have g8 : jI M 45 8 = nI t := by rw [k.I 8 (by decide)]; exact h8
    unfold bX12_next_123
    simp only [shA_45, shA_50, shZ_50, shR_45_2, shr_45_2, shR_45_3, shr_45_3, shR_45_4, shr_45_4, shR_45_5, shr_45_5, shR_45_7, shr_45_7, shR_45_16, shr_45_16, shR_45_18, shr_45_18, shR_45_19, shr_45_19, shR_45_21, shr_45_21, shR_45_22, shr_45_22, shR_45_25, shr_45_25, shR_45_26, shr_45_26, shR_45_28, shr_45_28, shR_45_29, shr_45_29, shR_45_33, shr_45_33, shR_45_34, shr_45_34, shR_45_35, shr_45_35, shR_45_36, shr_45_36, shR_45_37, shr_45_37, shR_45_38, shr_45_38, shR_45_39, shr_45_39, shR_45_40, shr_45_40, shR_45_42, shr_45_42, hs1, g8, g10, g11, ne_eq, not_false_eq_true, not_true_eq_false, reduceCtorEq, Nat.reduceEqDiff, forall_eq, true_and, and_true, true_implies, forall_const, implies_true, List.mem_cons, List.not_mem_nil, or_false, false_or, or_self, if_true, if_false, reduceIte, Nat.reduceAdd, Nat.reduceMul, Nat.reduceLT, false_implies, Decidable.not_not, bI_eq0, bI_eq1, upd_at, updL_at, Nat.succ_ne_zero, Int32.reduceToNatClampNeg, eq_self, i01, i10]
    rw [li_2, show p + (tnd t bb p - p) = tnd t bb p by omega, nI_le' (by omega) (by omega)]
    refine ⟨fun z => absurd rfl z, fun _ => ⟨fun _ => hQ M h, fun z => ?_⟩⟩
    have lt : tnd t bb p < t := by omega
    have hbt := (hby (tnd t bb p) lt)
    rw [nI_tn (by omega), f.I 50 (by decide), hbt.1]
    exact ⟨nI_in2 (by omega) (by omega), sX12_isDigit hbt.2 (fun y => absurd y (by have := a5 (by omega) lt; omega)) (fun _ => ⟨fun _ => hQ M h, fun y => absurd rfl y⟩)⟩
  | succ m ih =>
    intro x M e0 h
    refine n123_roll (fun K hK => ?_)
    obtain ⟨f, k, g9, g10, g11, g12⟩ := id h
    have hs1 := f.sh.mpr hs
    have g8 : jI M 45 8 = nI t := by rw [k.I 8 (by decide)]; exact h8
    have hbt := hby (p + x) (by omega)
    have cx := a4 (p + x) (by omega) (by omega)
    have dg := dig_of hp c x (by omega)
    have ml := mvF_le (f := fun k => bb (p + k)) x (fun k hk => (dig_of hp c k (by omega)).2)
    unfold bX12_next_123 wX12_next_161
    simp only [shA_45, shA_50, shZ_50, shR_45_2, shr_45_2, shR_45_3, shr_45_3, shR_45_4, shr_45_4, shR_45_5, shr_45_5, shR_45_7, shr_45_7, shR_45_16, shr_45_16, shR_45_18, shr_45_18, shR_45_19, shr_45_19, shR_45_21, shr_45_21, shR_45_22, shr_45_22, shR_45_25, shr_45_25, shR_45_26, shr_45_26, shR_45_28, shr_45_28, shR_45_29, shr_45_29, shR_45_33, shr_45_33, shR_45_34, shr_45_34, shR_45_35, shr_45_35, shR_45_36, shr_45_36, shR_45_37, shr_45_37, shR_45_38, shr_45_38, shR_45_39, shr_45_39, shR_45_40, shr_45_40, shR_45_42, shr_45_42, hs1, g8, g10, g11, ne_eq, not_false_eq_true, not_true_eq_false, reduceCtorEq, Nat.reduceEqDiff, forall_eq, true_and, and_true, true_implies, forall_const, implies_true, List.mem_cons, List.not_mem_nil, or_false, false_or, or_self, if_true, if_false, reduceIte, Nat.reduceAdd, Nat.reduceMul, Nat.reduceLT, false_implies, Decidable.not_not, bI_eq0, bI_eq1, upd_at, updL_at, Nat.succ_ne_zero, Int32.reduceToNatClampNeg, eq_self, i01, i10]
    rw [li_2, nI_le' (by omega) (by omega), nI_tn (by omega), f.I 50 (by decide), hbt.1]
    refine ⟨fun z => absurd rfl z, fun _ => ⟨fun z => by omega, fun _ => ⟨nI_in2 (by omega) (by omega), sX12_isDigit hbt.2 (fun _ => ⟨fun y => absurd y (by decide), fun _ => ?_⟩) (fun y => absurd (cx.trans c) y)⟩⟩⟩
    simp only [shA_45, shA_50, shZ_50, shR_45_2, shr_45_2, shR_45_3, shr_45_3, shR_45_4, shr_45_4, shR_45_5, shr_45_5, shR_45_7, shr_45_7, shR_45_16, shr_45_16, shR_45_18, shr_45_18, shR_45_19, shr_45_19, shR_45_21, shr_45_21, shR_45_22, shr_45_22, shR_45_25, shr_45_25, shR_45_26, shr_45_26, shR_45_28, shr_45_28, shR_45_29, shr_45_29, shR_45_33, shr_45_33, shR_45_34, shr_45_34, shR_45_35, shr_45_35, shR_45_36, shr_45_36, shR_45_37, shr_45_37, shR_45_38, shr_45_38, shR_45_39, shr_45_39, shR_45_40, shr_45_40, shR_45_42, shr_45_42, hs1, g10, g12, jN_uI, jN_uJ, jN_uR, jK_uI, jK_uJ, jK_uR, jZ_uI, jZ_uJ, jZ_uR, jR_uI, jR_uJ, jr_uI, jr_uJ, jI_uJ, jI_uR, jJ_uI, jJ_uR, jI_uI_eq, jI_uI_ne, jJ_uJ_eq, jJ_uJ_ne, jSh_uI, jSh_uJ, jA_uI, jA_uJ, jA_uR, jI_uIf_eq, jI_uIf_ne, jJ_uIf, jR_uIf, jr_uIf, jZ_uIf, jSh_uIf, jA_uIf, ne_eq, not_false_eq_true, not_true_eq_false, reduceCtorEq, Nat.reduceEqDiff, forall_eq, true_and, and_true, true_implies, forall_const, implies_true, List.mem_cons, List.not_mem_nil, or_false, false_or, or_self, if_true, if_false, reduceIte, Nat.reduceAdd, Nat.reduceMul, Nat.reduceLT, false_implies, Decidable.not_not, bI_eq0, bI_eq1, upd_at, updL_at, Nat.succ_ne_zero, Int32.reduceToNatClampNeg, eq_self, i01, i10]
    rw [nI_tn (by omega), f.I 50 (by decide), hbt.1, nI_1]
    have e1 : lN (mvF (fun k => bb (p + k)) x) * 10 + (nI (bb (p + x))).toInt64 - 48 = lN (mvF (fun k => bb (p + k)) x * 10 + (bb (p + x) - 48)) := by
      rw [nI_toL (by omega), show (10 : Int64) = lN 10 from rfl, show (48 : Int64) = lN 48 from rfl, lN_mul, lN_add]
      have : mvF (fun k => bb (p + k)) x * 10 + bb (p + x) = (mvF (fun k => bb (p + k)) x * 10 + (bb (p + x) - 48)) + 48 := by omega
      rw [this, ← lN_add]; lia
    have key : ∀ w, w = lN (mvF (fun k => bb (p + k)) (x + 1)) → K 45 (uI (uJ M 45 12 w) 45 10 (nI (p + x + 1))) := by
      intro w ew
      subst ew
      exact hK _ (ih (x + 1) _ (by omega) (h.step (by omega)))
    rw [show lg_cmp (lN (mvF (fun k => bb (p + k)) x)) 1000000 ≤ 0 ↔ ¬ 0 < lg_cmp (lN (mvF (fun k => bb (p + k)) x)) 1000000 from by lia, lg_cmp_gt, show (1000000 : Int64) = lN 1000000 from rfl, lN_lt' (by omega) (by omega)]
    refine ⟨fun z => ⟨nI_in2 (by omega) (by omega), key _ ?_⟩, fun z => key _ ?_⟩
    · rw [e1, mvF, if_neg z]
    · rw [mvF, if_pos (Classical.not_not.mp z)]
end NEXT
