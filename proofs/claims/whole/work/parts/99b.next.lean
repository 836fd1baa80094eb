/-! THE MODEL CUTS A TOKEN -/
def BY (M : JS) (t : Nat) (bb : Nat → Nat) : Prop := (∀ j, j < t → jI M 50 j = nI (bb j) ∧ bb j < 256) ∧ t ≤ 400
section NEXT
variable {t p : Nat} {bb : Nat → Nat} {M M0 M1 : JS} {Q : JS → Prop}
theorem sX12_isSmall {Q : Int32 → JS → Prop} {b : Nat} (hb : b < 256) (h1 : cls b = 1 → Q 1 M) (h0 : ¬ cls b = 1 → Q 0 M) : wX12_isSmall (nI b) M Q := by
  unfold wX12_isSmall
  rw [show (97 : Int32) = nI 97 from rfl, show (122 : Int32) = nI 122 from rfl, nI_lt' (by omega) (by omega), nI_lt' (by omega) (by omega)]
  unfold cls at h1 h0
  refine ⟨fun z => h0 ?_, fun z => ⟨fun z2 => h0 ?_, fun z2 => h1 ?_⟩⟩
  · rw [if_neg (by omega)]; split <;> omega
  · rw [if_neg (by omega)]; split <;> omega
  · rw [if_pos (by omega)]
theorem sX12_isDigit {Q : Int32 → JS → Prop} {b : Nat} (hb : b < 256) (h1 : cls b = 2 → Q 1 M) (h0 : ¬ cls b = 2 → Q 0 M) : wX12_isDigit (nI b) M Q := by
  unfold wX12_isDigit
  rw [show (48 : Int32) = nI 48 from rfl, show (57 : Int32) = nI 57 from rfl, nI_lt' (by omega) (by omega), nI_lt' (by omega) (by omega)]
  unfold cls at h1 h0
  refine ⟨fun z => h0 ?_, fun z => ⟨fun z2 => h0 ?_, fun z2 => h1 ?_⟩⟩
  · split
    · omega
    · rw [if_neg (by omega)]; omega
  · split
    · omega
    · rw [if_neg (by omega)]; omega
  · rw [if_neg (by omega), if_pos (by omega)]
theorem n4_roll (h : ∀ K : Nat → JS → Prop, (∀ M', wX12_next_4 45 M' Q → K 45 M') → bX12_next_4 K 45 M Q) : wX12_next_4 45 M Q := by
  unfold wX12_next_4
  exact jLoop.roll (h _ (fun _ h => h))
theorem n76_roll (h : ∀ K : Nat → JS → Prop, (∀ M', wX12_next_76 45 M' Q → K 45 M') → bX12_next_76 K 45 M Q) : wX12_next_76 45 M Q := by
  unfold wX12_next_76
  exact jLoop.roll (h _ (fun _ h => h))
theorem n123_roll (h : ∀ K : Nat → JS → Prop, (∀ M', wX12_next_123 45 M' Q → K 45 M') → bX12_next_123 K 45 M Q) : wX12_next_123 45 M Q := by
  unfold wX12_next_123
  exact jLoop.roll (h _ (fun _ h => h))
/-- where the cutting stands: the token from p on, x of its signs passed -/
def NS (M0 M : JS) (t p x s : Nat) (w : Int64) : Prop := jFr [45] M0 M ∧ jFk 45 [9, 10, 11, 12] M0 M ∧ jI M 45 9 = nI p ∧ jI M 45 10 = nI (p + x) ∧ jI M 45 11 = nI s ∧ jJ M 45 12 = w
theorem NS.step {x s : Nat} {w w' : Int64} (h : NS M0 M t p x s w) (hx : p + x < 1000) : NS M0 (uI (uJ M 45 12 w') 45 10 (nI (p + (x + 1)))) t p (x + 1) s w' := by
  obtain ⟨f, k, g9, g10, g11, g12⟩ := h
  refine ⟨(f.uJ (by decide)).uI (by decide), (k.sJ (by decide)).sI (by decide), ?_, ?_, ?_, ?_⟩
  · simp only [jN_uI, jN_uJ, jN_uR, jK_uI, jK_uJ, jK_uR, jZ_uI, jZ_uJ, jZ_uR, jR_uI, jR_uJ, jr_uI, jr_uJ, jI_uJ, jI_uR, jJ_uI, jJ_uR, jI_uI_eq, jI_uI_ne, jJ_uJ_eq, jJ_uJ_ne, jSh_uI, jSh_uJ, jA_uI, jA_uJ, jA_uR, jI_uIf_eq, jI_uIf_ne, jJ_uIf, jR_uIf, jr_uIf, jZ_uIf, jSh_uIf, jA_uIf, ne_eq, not_false_eq_true, not_true_eq_false, reduceCtorEq, Nat.reduceEqDiff, forall_eq, true_and, and_true, true_implies, forall_const, implies_true, List.mem_cons, List.not_mem_nil, or_false, false_or, or_self, if_true, if_false, reduceIte, Nat.reduceAdd, Nat.reduceMul, Nat.reduceLT, false_implies, Decidable.not_not, bI_eq0, bI_eq1, upd_at, updL_at, Nat.succ_ne_zero, Int32.reduceToNatClampNeg, eq_self, i01, i10]; exact g9
  · simp only [jN_uI, jN_uJ, jN_uR, jK_uI, jK_uJ, jK_uR, jZ_uI, jZ_uJ, jZ_uR, jR_uI, jR_uJ, jr_uI, jr_uJ, jI_uJ, jI_uR, jJ_uI, jJ_uR, jI_uI_eq, jI_uI_ne, jJ_uJ_eq, jJ_uJ_ne, jSh_uI, jSh_uJ, jA_uI, jA_uJ, jA_uR, jI_uIf_eq, jI_uIf_ne, jJ_uIf, jR_uIf, jr_uIf, jZ_uIf, jSh_uIf, jA_uIf, ne_eq, not_false_eq_true, not_true_eq_false, reduceCtorEq, Nat.reduceEqDiff, forall_eq, true_and, and_true, true_implies, forall_const, implies_true, List.mem_cons, List.not_mem_nil, or_false, false_or, or_self, if_true, if_false, reduceIte, Nat.reduceAdd, Nat.reduceMul, Nat.reduceLT, false_implies, Decidable.not_not, bI_eq0, bI_eq1, upd_at, updL_at, Nat.succ_ne_zero, Int32.reduceToNatClampNeg, eq_self, i01, i10]
  · simp only [jN_uI, jN_uJ, jN_uR, jK_uI, jK_uJ, jK_uR, jZ_uI, jZ_uJ, jZ_uR, jR_uI, jR_uJ, jr_uI, jr_uJ, jI_uJ, jI_uR, jJ_uI, jJ_uR, jI_uI_eq, jI_uI_ne, jJ_uJ_eq, jJ_uJ_ne, jSh_uI, jSh_uJ, jA_uI, jA_uJ, jA_uR, jI_uIf_eq, jI_uIf_ne, jJ_uIf, jR_uIf, jr_uIf, jZ_uIf, jSh_uIf, jA_uIf, ne_eq, not_false_eq_true, not_true_eq_false, reduceCtorEq, Nat.reduceEqDiff, forall_eq, true_and, and_true, true_implies, forall_const, implies_true, List.mem_cons, List.not_mem_nil, or_false, false_or, or_self, if_true, if_false, reduceIte, Nat.reduceAdd, Nat.reduceMul, Nat.reduceLT, false_implies, Decidable.not_not, bI_eq0, bI_eq1, upd_at, updL_at, Nat.succ_ne_zero, Int32.reduceToNatClampNeg, eq_self, i01, i10]; exact g11
  · simp only [jN_uI, jN_uJ, jN_uR, jK_uI, jK_uJ, jK_uR, jZ_uI, jZ_uJ, jZ_uR, jR_uI, jR_uJ, jr_uI, jr_uJ, jI_uJ, jI_uR, jJ_uI, jJ_uR, jI_uI_eq, jI_uI_ne, jJ_uJ_eq, jJ_uJ_ne, jSh_uI, jSh_uJ, jA_uI, jA_uJ, jA_uR, jI_uIf_eq, jI_uIf_ne, jJ_uIf, jR_uIf, jr_uIf, jZ_uIf, jSh_uIf, jA_uIf, ne_eq, not_false_eq_true, not_true_eq_false, reduceCtorEq, Nat.reduceEqDiff, forall_eq, true_and, and_true, true_implies, forall_const, implies_true, List.mem_cons, List.not_mem_nil, or_false, false_or, or_self, if_true, if_false, reduceIte, Nat.reduceAdd, Nat.reduceMul, Nat.reduceLT, false_implies, Decidable.not_not, bI_eq0, bI_eq1, upd_at, updL_at, Nat.succ_ne_zero, Int32.reduceToNatClampNeg, eq_self, i01, i10]
theorem nx_dig (hs : jSh M0) (hb : BY M0 t bb) (h8 : jI M0 45 8 = nI t) (hp : p < t) (c : cls (bb p) = 2) (hQ : ∀ M, NS M0 M t p (tnd t bb p - p) 2 (lN (mvF (fun k => bb (p + k)) (tnd t bb p - p))) → Q M) : ∀ m x M, x + m = tnd t bb p - p → NS M0 M t p x 2 (lN (mvF (fun k => bb (p + k)) x)) → wX12_next_123 45 M Q := by
  obtain ⟨a1, a2, a3, a4, a5⟩ := tnd_spec (bb := bb) hp
  obtain ⟨hby, ht4⟩ := id hb
  intro m
  induction m with
  | zero =>
    intro x M e0 h
    have ex : x = tnd t bb p - p := by omega
    subst ex
    refine n123_roll (fun K _ => ?_)
    obtain ⟨f, k, g9, g10, g11, g12⟩ := id h
    have hs1 := f.sh.mpr hs
    have g8 : jI M 45 8 = nI t := by rw [k.I 8 (by decide)]; exact h8
    unfold bX12_next_123
    simp only [shA_45, shA_50, shZ_50, shR_45_2, shr_45_2, shR_45_3, shr_45_3, shR_45_4, shr_45_4, shR_45_5, shr_45_5, shR_45_7, shr_45_7, shR_45_16, shr_45_16, shR_45_18, shr_45_18, shR_45_19, shr_45_19, shR_45_21, shr_45_21, shR_45_22, shr_45_22, shR_45_25, shr_45_25, shR_45_26, shr_45_26, shR_45_28, shr_45_28, shR_45_29, shr_45_29, shR_45_33, shr_45_33, shR_45_34, shr_45_34, shR_45_35, shr_45_35, shR_45_36, shr_45_36, shR_45_37, shr_45_37, shR_45_38, shr_45_38, shR_45_39, shr_45_39, shR_45_40, shr_45_40, shR_45_42, shr_45_42, hs1, g8, g10, g11, ne_eq, not_false_eq_true, not_true_eq_false, reduceCtorEq, Nat.reduceEqDiff, forall_eq, true_and, and_true, true_implies, forall_const, implies_true, List.mem_cons, List.not_mem_nil, or_false, false_or, or_self, if_true, if_false, reduceIte, Nat.reduceAdd, Nat.reduceMul, Nat.reduceLT, false_implies, Decidable.not_not, bI_eq0, bI_eq1, upd_at, updL_at, Nat.succ_ne_zero, Int32.reduceToNatClampNeg, eq_self, i01, i10]
    rw [li_2, show p + (tnd t bb p - p) = tnd t bb p by omega, nI_le' (by omega) (by omega)]
    refine ⟨fun z => absurd rfl z, fun _ => ⟨fun _ => hQ M h, fun z => ?_⟩⟩
    have lt : tnd t bb p < t := by omega
    have hbt := (hby (tnd t bb p) lt)
    rw [nI_tn (by omega), f.I 50 (by decide), hbt.1]
    exact ⟨nI_in2 (by omega) (by omega), sX12_isDigit hbt.2 (fun y => absurd y (by have := a5 (by omega) lt; omega)) (fun _ => ⟨fun _ => hQ M h, fun y => absurd rfl y⟩)⟩
  | succ m ih =>
    intro x M e0 h
    refine n123_roll (fun K hK => ?_)
    obtain ⟨f, k, g9, g10, g11, g12⟩ := id h
    have hs1 := f.sh.mpr hs
    have g8 : jI M 45 8 = nI t := by rw [k.I 8 (by decide)]; exact h8
    have hbt := hby (p + x) (by omega)
    have cx := a4 (p + x) (by omega) (by omega)
    have dg := dig_of hp c x (by omega)
    have ml := mvF_le (f := fun k => bb (p + k)) x (fun k hk => (dig_of hp c k (by omega)).2)
    unfold bX12_next_123 wX12_next_161
    simp only [shA_45, shA_50, shZ_50, shR_45_2, shr_45_2, shR_45_3, shr_45_3, shR_45_4, shr_45_4, shR_45_5, shr_45_5, shR_45_7, shr_45_7, shR_45_16, shr_45_16, shR_45_18, shr_45_18, shR_45_19, shr_45_19, shR_45_21, shr_45_21, shR_45_22, shr_45_22, shR_45_25, shr_45_25, shR_45_26, shr_45_26, shR_45_28, shr_45_28, shR_45_29, shr_45_29, shR_45_33, shr_45_33, shR_45_34, shr_45_34, shR_45_35, shr_45_35, shR_45_36, shr_45_36, shR_45_37, shr_45_37, shR_45_38, shr_45_38, shR_45_39, shr_45_39, shR_45_40, shr_45_40, shR_45_42, shr_45_42, hs1, g8, g10, g11, ne_eq, not_false_eq_true, not_true_eq_false, reduceCtorEq, Nat.reduceEqDiff, forall_eq, true_and, and_true, true_implies, forall_const, implies_true, List.mem_cons, List.not_mem_nil, or_false, false_or, or_self, if_true, if_false, reduceIte, Nat.reduceAdd, Nat.reduceMul, Nat.reduceLT, false_implies, Decidable.not_not, bI_eq0, bI_eq1, upd_at, updL_at, Nat.succ_ne_zero, Int32.reduceToNatClampNeg, eq_self, i01, i10]
    rw [li_2, nI_le' (by omega) (by omega), nI_tn (by omega), f.I 50 (by decide), hbt.1]
    refine ⟨fun z => absurd rfl z, fun _ => ⟨fun z => by omega, fun _ => ⟨nI_in2 (by omega) (by omega), sX12_isDigit hbt.2 (fun _ => ⟨fun y => absurd y (by decide), fun _ => ?_⟩) (fun y => absurd (cx.trans c) y)⟩⟩⟩
    simp only [shA_45, shA_50, shZ_50, shR_45_2, shr_45_2, shR_45_3, shr_45_3, shR_45_4, shr_45_4, shR_45_5, shr_45_5, shR_45_7, shr_45_7, shR_45_16, shr_45_16, shR_45_18, shr_45_18, shR_45_19, shr_45_19, shR_45_21, shr_45_21, shR_45_22, shr_45_22, shR_45_25, shr_45_25, shR_45_26, shr_45_26, shR_45_28, shr_45_28, shR_45_29, shr_45_29, shR_45_33, shr_45_33, shR_45_34, shr_45_34, shR_45_35, shr_45_35, shR_45_36, shr_45_36, shR_45_37, shr_45_37, shR_45_38, shr_45_38, shR_45_39, shr_45_39, shR_45_40, shr_45_40, shR_45_42, shr_45_42, hs1, g10, g12, jN_uI, jN_uJ, jN_uR, jK_uI, jK_uJ, jK_uR, jZ_uI, jZ_uJ, jZ_uR, jR_uI, jR_uJ, jr_uI, jr_uJ, jI_uJ, jI_uR, jJ_uI, jJ_uR, jI_uI_eq, jI_uI_ne, jJ_uJ_eq, jJ_uJ_ne, jSh_uI, jSh_uJ, jA_uI, jA_uJ, jA_uR, jI_uIf_eq, jI_uIf_ne, jJ_uIf, jR_uIf, jr_uIf, jZ_uIf, jSh_uIf, jA_uIf, ne_eq, not_false_eq_true, not_true_eq_false, reduceCtorEq, Nat.reduceEqDiff, forall_eq, true_and, and_true, true_implies, forall_const, implies_true, List.mem_cons, List.not_mem_nil, or_false, false_or, or_self, if_true, if_false, reduceIte, Nat.reduceAdd, Nat.reduceMul, Nat.reduceLT, false_implies, Decidable.not_not, bI_eq0, bI_eq1, upd_at, updL_at, Nat.succ_ne_zero, Int32.reduceToNatClampNeg, eq_self, i01, i10]
    rw [nI_tn (by omega), f.I 50 (by decide), hbt.1, nI_1]
    have e1 : lN (mvF (fun k => bb (p + k)) x) * 10 + (nI (bb (p + x))).toInt64 - 48 = lN (mvF (fun k => bb (p + k)) x * 10 + (bb (p + x) - 48)) := by
      rw [nI_toL (by omega), show (10 : Int64) = lN 10 from rfl, show (48 : Int64) = lN 48 from rfl, lN_mul, lN_add]
      have : mvF (fun k => bb (p + k)) x * 10 + bb (p + x) = (mvF (fun k => bb (p + k)) x * 10 + (bb (p + x) - 48)) + 48 := by omega
      rw [this, ← lN_add]; lia
    have key : ∀ w, w = lN (mvF (fun k => bb (p + k)) (x + 1)) → K 45 (uI (uJ M 45 12 w) 45 10 (nI (p + x + 1))) := by
      intro w ew
      subst ew
      exact hK _ (ih (x + 1) _ (by omega) (h.step (by omega)))
    rw [show lg_cmp (lN (mvF (fun k => bb (p + k)) x)) 1000000 ≤ 0 ↔ ¬ 0 < lg_cmp (lN (mvF (fun k => bb (p + k)) x)) 1000000 from by lia, lg_cmp_gt, show (1000000 : Int64) = lN 1000000 from rfl, lN_lt' (by omega) (by omega)]
    refine ⟨fun z => ⟨nI_in2 (by omega) (by omega), key _ ?_⟩, fun z => key _ ?_⟩
    · rw [e1, mvF, if_neg z]
    · rw [mvF, if_pos (Classical.not_not.mp z)]
def wvF (f : Nat → Nat) (x : Nat) : Int64 := if x ≤ 10 then lN (wcF f x) else -1
theorem nx_123 {x s : Nat} {w : Int64} (hs : jSh M0) (h : NS M0 M t p x s w) (h2 : s ≠ 2) (h3 : s ≤ 3) (hQ : Q M) : wX12_next_123 45 M Q := by
  refine n123_roll (fun K _ => ?_)
  unfold bX12_next_123
  rw [h.2.2.2.2.1, li_2, nI_eq' (by omega) (by omega)]
  exact ⟨shA_45 (h.1.sh.mpr hs), fun _ => hQ, fun z => absurd z h2⟩
theorem nx_76 {x s : Nat} {w : Int64} (hs : jSh M0) (h : NS M0 M t p x s w) (h2 : s ≠ 1) (h3 : s ≤ 3) (hQ : wX12_next_123 45 M Q) : wX12_next_76 45 M Q := by
  refine n76_roll (fun K _ => ?_)
  unfold bX12_next_76
  rw [h.2.2.2.2.1, li_1, nI_eq' (by omega) (by omega)]
  exact ⟨shA_45 (h.1.sh.mpr hs), fun _ => hQ, fun z => absurd z h2⟩
theorem nx_let (hs : jSh M0) (hb : BY M0 t bb) (h8 : jI M0 45 8 = nI t) (hp : p < t) (c : cls (bb p) = 1) (hQ : ∀ M, NS M0 M t p (tnd t bb p - p) 1 (wvF (fun k => bb (p + k)) (tnd t bb p - p)) → Q M) : ∀ m x M, x + m = tnd t bb p - p → NS M0 M t p x 1 (wvF (fun k => bb (p + k)) x) → wX12_next_76 45 M Q := by
  obtain ⟨a1, a2, a3, a4, a5⟩ := tnd_spec (bb := bb) hp
  obtain ⟨hby, ht4⟩ := id hb
  intro m
  induction m with
  | zero =>
    intro x M e0 h
    have ex : x = tnd t bb p - p := by omega
    subst ex
    have hq : wX12_next_123 45 M Q := nx_123 hs h (by omega) (by omega) (hQ M h)
    refine n76_roll (fun K _ => ?_)
    obtain ⟨f, k, g9, g10, g11, g12⟩ := id h
    have hs1 := f.sh.mpr hs
    have g8 : jI M 45 8 = nI t := by rw [k.I 8 (by decide)]; exact h8
    unfold bX12_next_76
    simp only [shA_45, shA_50, shZ_50, shR_45_2, shr_45_2, shR_45_3, shr_45_3, shR_45_4, shr_45_4, shR_45_5, shr_45_5, shR_45_7, shr_45_7, shR_45_16, shr_45_16, shR_45_18, shr_45_18, shR_45_19, shr_45_19, shR_45_21, shr_45_21, shR_45_22, shr_45_22, shR_45_25, shr_45_25, shR_45_26, shr_45_26, shR_45_28, shr_45_28, shR_45_29, shr_45_29, shR_45_33, shr_45_33, shR_45_34, shr_45_34, shR_45_35, shr_45_35, shR_45_36, shr_45_36, shR_45_37, shr_45_37, shR_45_38, shr_45_38, shR_45_39, shr_45_39, shR_45_40, shr_45_40, shR_45_42, shr_45_42, hs1, g8, g10, g11, ne_eq, not_false_eq_true, not_true_eq_false, reduceCtorEq, Nat.reduceEqDiff, forall_eq, true_and, and_true, true_implies, forall_const, implies_true, List.mem_cons, List.not_mem_nil, or_false, false_or, or_self, if_true, if_false, reduceIte, Nat.reduceAdd, Nat.reduceMul, Nat.reduceLT, false_implies, Decidable.not_not, bI_eq0, bI_eq1, upd_at, updL_at, Nat.succ_ne_zero, Int32.reduceToNatClampNeg, eq_self, i01, i10]
    rw [li_1, show p + (tnd t bb p - p) = tnd t bb p by omega, nI_le' (by omega) (by omega)]
    refine ⟨fun z => absurd rfl z, fun _ => ⟨fun _ => hq, fun z => ?_⟩⟩
    have lt : tnd t bb p < t := by omega
    have hbt := (hby (tnd t bb p) lt)
    rw [nI_tn (by omega), f.I 50 (by decide), hbt.1]
    exact ⟨nI_in2 (by omega) (by omega), sX12_isSmall hbt.2 (fun y => absurd y (by have := a5 (by omega) lt; omega)) (fun _ => ⟨fun _ => hq, fun y => absurd rfl y⟩)⟩
  | succ m ih =>
    intro x M e0 h
    refine n76_roll (fun K hK => ?_)
    obtain ⟨f, k, g9, g10, g11, g12⟩ := id h
    have hs1 := f.sh.mpr hs
    have g8 : jI M 45 8 = nI t := by rw [k.I 8 (by decide)]; exact h8
    have hbt := hby (p + x) (by omega)
    have cx := a4 (p + x) (by omega) (by omega)
    have dg := let_of hp c x (by omega)
    unfold bX12_next_76 wX12_next_115
    simp only [shA_45, shA_50, shZ_50, shR_45_2, shr_45_2, shR_45_3, shr_45_3, shR_45_4, shr_45_4, shR_45_5, shr_45_5, shR_45_7, shr_45_7, shR_45_16, shr_45_16, shR_45_18, shr_45_18, shR_45_19, shr_45_19, shR_45_21, shr_45_21, shR_45_22, shr_45_22, shR_45_25, shr_45_25, shR_45_26, shr_45_26, shR_45_28, shr_45_28, shR_45_29, shr_45_29, shR_45_33, shr_45_33, shR_45_34, shr_45_34, shR_45_35, shr_45_35, shR_45_36, shr_45_36, shR_45_37, shr_45_37, shR_45_38, shr_45_38, shR_45_39, shr_45_39, shR_45_40, shr_45_40, shR_45_42, shr_45_42, hs1, g8, g10, g11, ne_eq, not_false_eq_true, not_true_eq_false, reduceCtorEq, Nat.reduceEqDiff, forall_eq, true_and, and_true, true_implies, forall_const, implies_true, List.mem_cons, List.not_mem_nil, or_false, false_or, or_self, if_true, if_false, reduceIte, Nat.reduceAdd, Nat.reduceMul, Nat.reduceLT, false_implies, Decidable.not_not, bI_eq0, bI_eq1, upd_at, updL_at, Nat.succ_ne_zero, Int32.reduceToNatClampNeg, eq_self, i01, i10]
    rw [li_1, nI_le' (by omega) (by omega), nI_tn (by omega), f.I 50 (by decide), hbt.1]
    refine ⟨fun z => absurd rfl z, fun _ => ⟨fun z => by omega, fun _ => ⟨nI_in2 (by omega) (by omega), sX12_isSmall hbt.2 (fun _ => ⟨fun y => absurd y (by decide), fun _ => ?_⟩) (fun y => absurd (cx.trans c) y)⟩⟩⟩
    simp only [shA_45, shA_50, shZ_50, shR_45_2, shr_45_2, shR_45_3, shr_45_3, shR_45_4, shr_45_4, shR_45_5, shr_45_5, shR_45_7, shr_45_7, shR_45_16, shr_45_16, shR_45_18, shr_45_18, shR_45_19, shr_45_19, shR_45_21, shr_45_21, shR_45_22, shr_45_22, shR_45_25, shr_45_25, shR_45_26, shr_45_26, shR_45_28, shr_45_28, shR_45_29, shr_45_29, shR_45_33, shr_45_33, shR_45_34, shr_45_34, shR_45_35, shr_45_35, shR_45_36, shr_45_36, shR_45_37, shr_45_37, shR_45_38, shr_45_38, shR_45_39, shr_45_39, shR_45_40, shr_45_40, shR_45_42, shr_45_42, hs1, g9, g10, g12, jN_uI, jN_uJ, jN_uR, jK_uI, jK_uJ, jK_uR, jZ_uI, jZ_uJ, jZ_uR, jR_uI, jR_uJ, jr_uI, jr_uJ, jI_uJ, jI_uR, jJ_uI, jJ_uR, jI_uI_eq, jI_uI_ne, jJ_uJ_eq, jJ_uJ_ne, jSh_uI, jSh_uJ, jA_uI, jA_uJ, jA_uR, jI_uIf_eq, jI_uIf_ne, jJ_uIf, jR_uIf, jr_uIf, jZ_uIf, jSh_uIf, jA_uIf, ne_eq, not_false_eq_true, not_true_eq_false, reduceCtorEq, Nat.reduceEqDiff, forall_eq, true_and, and_true, true_implies, forall_const, implies_true, List.mem_cons, List.not_mem_nil, or_false, false_or, or_self, if_true, if_false, reduceIte, Nat.reduceAdd, Nat.reduceMul, Nat.reduceLT, false_implies, Decidable.not_not, bI_eq0, bI_eq1, upd_at, updL_at, Nat.succ_ne_zero, Int32.reduceToNatClampNeg, eq_self, i01, i10]
    rw [nI_tn (by omega), f.I 50 (by decide), hbt.1, show nI (p + x) + nI 1 = nI (p + (x + 1)) from nI_add _ _, nI_sub (by omega), Nat.add_sub_cancel_left, show (10 : Int32) = nI 10 from rfl, nI_le' (by omega) (by omega)]
    have key : ∀ w, w = wvF (fun k => bb (p + k)) (x + 1) → K 45 (uI (uJ M 45 12 w) 45 10 (nI (p + (x + 1)))) := by
      intro w ew
      subst ew
      exact hK _ (ih (x + 1) _ (by omega) (h.step (by omega)))
    refine ⟨fun z => key _ ?_, fun z => ⟨nI_in2 (by omega) (by omega), key _ ?_⟩⟩
    · unfold wvF; rw [if_neg (by omega)]
    · unfold wvF
      rw [if_pos (by omega), if_pos (by omega), wcF, nI_toL (by omega), show (32 : Int64) = lN 32 from rfl, show (96 : Int64) = lN 96 from rfl, lN_mul, lN_add]
      have : wcF (fun k => bb (p + k)) x * 32 + bb (p + x) = (wcF (fun k => bb (p + k)) x * 32 + (bb (p + x) - 96)) + 96 := by omega
      rw [this, ← lN_add]; lia
/-- the token from p on -/
theorem nx_57 {s : Nat} (hs : jSh M0) (hb : BY M0 t bb) (h8 : jI M0 45 8 = nI t) (hp : p ≤ t) (es : s = soP t bb p) (h : jFr [45] M0 M ∧ jFk 45 [9, 10, 11, 12] M0 M ∧ jI M 45 9 = nI p ∧ jI M 45 10 = nI p ∧ jJ M 45 12 = 0) (hQ : ∀ M, NS M0 M t p (tnd t bb p - p) (soP t bb p) (woP t bb p) → Q M) : wX12_next_57 45 (nI s) 45 M Q := by
  obtain ⟨f, k, g9, g10, g12⟩ := h
  obtain ⟨hby, ht4⟩ := id hb
  have hs1 := f.sh.mpr hs
  have g8 : jI M 45 8 = nI t := by rw [k.I 8 (by decide)]; exact h8
  have h2 : NS M0 (uI M 45 11 (nI s)) t p 0 s 0 := by
    refine ⟨f.uI (by decide), k.sI (by decide), ?_, ?_, ?_, ?_⟩
    · simp only [jN_uI, jN_uJ, jN_uR, jK_uI, jK_uJ, jK_uR, jZ_uI, jZ_uJ, jZ_uR, jR_uI, jR_uJ, jr_uI, jr_uJ, jI_uJ, jI_uR, jJ_uI, jJ_uR, jI_uI_eq, jI_uI_ne, jJ_uJ_eq, jJ_uJ_ne, jSh_uI, jSh_uJ, jA_uI, jA_uJ, jA_uR, jI_uIf_eq, jI_uIf_ne, jJ_uIf, jR_uIf, jr_uIf, jZ_uIf, jSh_uIf, jA_uIf, ne_eq, not_false_eq_true, not_true_eq_false, reduceCtorEq, Nat.reduceEqDiff, forall_eq, true_and, and_true, true_implies, forall_const, implies_true, List.mem_cons, List.not_mem_nil, or_false, false_or, or_self, if_true, if_false, reduceIte, Nat.reduceAdd, Nat.reduceMul, Nat.reduceLT, false_implies, Decidable.not_not, bI_eq0, bI_eq1, upd_at, updL_at, Nat.succ_ne_zero, Int32.reduceToNatClampNeg, eq_self, i01, i10]; exact g9
    · simp only [jN_uI, jN_uJ, jN_uR, jK_uI, jK_uJ, jK_uR, jZ_uI, jZ_uJ, jZ_uR, jR_uI, jR_uJ, jr_uI, jr_uJ, jI_uJ, jI_uR, jJ_uI, jJ_uR, jI_uI_eq, jI_uI_ne, jJ_uJ_eq, jJ_uJ_ne, jSh_uI, jSh_uJ, jA_uI, jA_uJ, jA_uR, jI_uIf_eq, jI_uIf_ne, jJ_uIf, jR_uIf, jr_uIf, jZ_uIf, jSh_uIf, jA_uIf, ne_eq, not_false_eq_true, not_true_eq_false, reduceCtorEq, Nat.reduceEqDiff, forall_eq, true_and, and_true, true_implies, forall_const, implies_true, List.mem_cons, List.not_mem_nil, or_false, false_or, or_self, if_true, if_false, reduceIte, Nat.reduceAdd, Nat.reduceMul, Nat.reduceLT, false_implies, Decidable.not_not, bI_eq0, bI_eq1, upd_at, updL_at, Nat.succ_ne_zero, Int32.reduceToNatClampNeg, eq_self, i01, i10]; exact g10
    · simp only [jN_uI, jN_uJ, jN_uR, jK_uI, jK_uJ, jK_uR, jZ_uI, jZ_uJ, jZ_uR, jR_uI, jR_uJ, jr_uI, jr_uJ, jI_uJ, jI_uR, jJ_uI, jJ_uR, jI_uI_eq, jI_uI_ne, jJ_uJ_eq, jJ_uJ_ne, jSh_uI, jSh_uJ, jA_uI, jA_uJ, jA_uR, jI_uIf_eq, jI_uIf_ne, jJ_uIf, jR_uIf, jr_uIf, jZ_uIf, jSh_uIf, jA_uIf, ne_eq, not_false_eq_true, not_true_eq_false, reduceCtorEq, Nat.reduceEqDiff, forall_eq, true_and, and_true, true_implies, forall_const, implies_true, List.mem_cons, List.not_mem_nil, or_false, false_or, or_self, if_true, if_false, reduceIte, Nat.reduceAdd, Nat.reduceMul, Nat.reduceLT, false_implies, Decidable.not_not, bI_eq0, bI_eq1, upd_at, updL_at, Nat.succ_ne_zero, Int32.reduceToNatClampNeg, eq_self, i01, i10]
    · simp only [jN_uI, jN_uJ, jN_uR, jK_uI, jK_uJ, jK_uR, jZ_uI, jZ_uJ, jZ_uR, jR_uI, jR_uJ, jr_uI, jr_uJ, jI_uJ, jI_uR, jJ_uI, jJ_uR, jI_uI_eq, jI_uI_ne, jJ_uJ_eq, jJ_uJ_ne, jSh_uI, jSh_uJ, jA_uI, jA_uJ, jA_uR, jI_uIf_eq, jI_uIf_ne, jJ_uIf, jR_uIf, jr_uIf, jZ_uIf, jSh_uIf, jA_uIf, ne_eq, not_false_eq_true, not_true_eq_false, reduceCtorEq, Nat.reduceEqDiff, forall_eq, true_and, and_true, true_implies, forall_const, implies_true, List.mem_cons, List.not_mem_nil, or_false, false_or, or_self, if_true, if_false, reduceIte, Nat.reduceAdd, Nat.reduceMul, Nat.reduceLT, false_implies, Decidable.not_not, bI_eq0, bI_eq1, upd_at, updL_at, Nat.succ_ne_zero, Int32.reduceToNatClampNeg, eq_self, i01, i10]; exact g12
  have s3 : s ≤ 3 := by subst es; unfold soP; split <;> (try omega); exact (cls3 _).2
  unfold wX12_next_57
  refine ⟨shA_45 hs1, fun S21 e21 => ?_⟩
  subst e21
  have hs2 := h2.1.sh.mpr hs
  rw [h2.2.2.2.2.1, li_3, nI_eq' (by omega) (by omega)]
  refine ⟨shA_45 hs2, fun z => ?_, fun z => ?_⟩
  · rcases (by omega : s = 0 ∨ s = 1 ∨ s = 2) with q | q | q
    · have ht : t ≤ p := by
        subst es; unfold soP at q; split at q
        · assumption
        · have := cls3 (bb p); omega
      refine nx_76 hs h2 (by omega) s3 (nx_123 hs h2 (by omega) s3 (hQ _ ?_))
      have e1 : tnd t bb p - p = 0 := by rw [tnd_t ht]; omega
      have e2 : woP t bb p = 0 := by unfold woP; rw [if_pos ht]
      rw [e1, e2, ← es]; exact h2
    · have hlt : p < t := by
        subst es; unfold soP at q; split at q <;> omega
      have c : cls (bb p) = 1 := by subst es; unfold soP at q; rw [if_neg (by omega)] at q; exact q
      subst q
      refine nx_let hs hb h8 hlt c (fun M3 h3 => hQ M3 ?_) (tnd t bb p - p) 0 _ (by omega) h2
      have e2 : woP t bb p = wvF (fun k => bb (p + k)) (tnd t bb p - p) := by unfold woP wvF; rw [if_neg (by omega), if_pos c]
      rw [e2, ← es]; exact h3
    · have hlt : p < t := by
        subst es; unfold soP at q; split at q <;> omega
      have c : cls (bb p) = 2 := by subst es; unfold soP at q; rw [if_neg (by omega)] at q; exact q
      subst q
      refine nx_76 hs h2 (by omega) s3 (nx_dig hs hb h8 hlt c (fun M3 h3 => hQ M3 ?_) (tnd t bb p - p) 0 _ (by omega) h2)
      have e2 : woP t bb p = lN (mvF (fun k => bb (p + k)) (tnd t bb p - p)) := by unfold woP; rw [if_neg (by omega), if_neg (by omega), if_pos c]
      rw [e2, ← es]; exact h3
  · have hlt : p < t := by
      subst es; unfold soP at z; split at z <;> omega
    have c : cls (bb p) = 3 := by subst es; unfold soP at z; rw [if_neg (by omega)] at z; exact z
    have hbt := hby p hlt
    have g50 : jI (uI M 45 11 (nI s)) 50 p = nI (bb p) := by rw [h2.1.I 50 (by decide)]; exact hbt.1
    simp only [shA_45, shA_50, shZ_50, shR_45_2, shr_45_2, shR_45_3, shr_45_3, shR_45_4, shr_45_4, shR_45_5, shr_45_5, shR_45_7, shr_45_7, shR_45_16, shr_45_16, shR_45_18, shr_45_18, shR_45_19, shr_45_19, shR_45_21, shr_45_21, shR_45_22, shr_45_22, shR_45_25, shr_45_25, shR_45_26, shr_45_26, shR_45_28, shr_45_28, shR_45_29, shr_45_29, shR_45_33, shr_45_33, shR_45_34, shr_45_34, shR_45_35, shr_45_35, shR_45_36, shr_45_36, shR_45_37, shr_45_37, shR_45_38, shr_45_38, shR_45_39, shr_45_39, shR_45_40, shr_45_40, shR_45_42, shr_45_42, hs2, h2.2.2.1, h2.2.2.2.1, ne_eq, not_false_eq_true, not_true_eq_false, reduceCtorEq, Nat.reduceEqDiff, forall_eq, true_and, and_true, true_implies, forall_const, implies_true, List.mem_cons, List.not_mem_nil, or_false, false_or, or_self, if_true, if_false, reduceIte, Nat.reduceAdd, Nat.reduceMul, Nat.reduceLT, false_implies, Decidable.not_not, bI_eq0, bI_eq1, upd_at, updL_at, Nat.succ_ne_zero, Int32.reduceToNatClampNeg, eq_self, i01, i10]
    rw [nI_tn (by omega), g50, nI_toL (by omega)]
    refine ⟨nI_in2 (by omega) (by omega), ?_⟩
    have h3 := h2.step (w' := lN (bb p)) (by omega)
    have g10' : jI (uJ (uI M 45 11 (nI s)) 45 12 (lN (bb p))) 45 10 = nI (p + 0) := by simp only [jN_uI, jN_uJ, jN_uR, jK_uI, jK_uJ, jK_uR, jZ_uI, jZ_uJ, jZ_uR, jR_uI, jR_uJ, jr_uI, jr_uJ, jI_uJ, jI_uR, jJ_uI, jJ_uR, jI_uI_eq, jI_uI_ne, jJ_uJ_eq, jJ_uJ_ne, jSh_uI, jSh_uJ, jA_uI, jA_uJ, jA_uR, jI_uIf_eq, jI_uIf_ne, jJ_uIf, jR_uIf, jr_uIf, jZ_uIf, jSh_uIf, jA_uIf, ne_eq, not_false_eq_true, not_true_eq_false, reduceCtorEq, Nat.reduceEqDiff, forall_eq, true_and, and_true, true_implies, forall_const, implies_true, List.mem_cons, List.not_mem_nil, or_false, false_or, or_self, if_true, if_false, reduceIte, Nat.reduceAdd, Nat.reduceMul, Nat.reduceLT, false_implies, Decidable.not_not, bI_eq0, bI_eq1, upd_at, updL_at, Nat.succ_ne_zero, Int32.reduceToNatClampNeg, eq_self, i01, i10]; exact g10
    refine ⟨shA_45 (by simp only [jN_uI, jN_uJ, jN_uR, jK_uI, jK_uJ, jK_uR, jZ_uI, jZ_uJ, jZ_uR, jR_uI, jR_uJ, jr_uI, jr_uJ, jI_uJ, jI_uR, jJ_uI, jJ_uR, jI_uI_eq, jI_uI_ne, jJ_uJ_eq, jJ_uJ_ne, jSh_uI, jSh_uJ, jA_uI, jA_uJ, jA_uR, jI_uIf_eq, jI_uIf_ne, jJ_uIf, jR_uIf, jr_uIf, jZ_uIf, jSh_uIf, jA_uIf]; exact hs1), ?_⟩
    rw [g10', show nI (p + 0) + 1 = nI (p + (0 + 1)) from nI_1 _]
    refine nx_76 hs h3 (by omega) s3 (nx_123 hs h3 (by omega) s3 (hQ _ ?_))
    have e1 : tnd t bb p - p = 0 + 1 := by rw [(tnd_spec hlt).2.2.1 c]; omega
    have e2 : woP t bb p = lN (bb p) := by unfold woP; rw [if_neg (by omega), if_neg (by omega), if_neg (by omega)]
    rw [e1, e2, ← es]; exact h3
theorem nx_23 (hs : jSh M0) (hb : BY M0 t bb) (h8 : jI M0 45 8 = nI t) (hp : p ≤ t) (f : jFr [45] M0 M) (k : jFk 45 [9, 10, 11, 12] M0 M) (g9 : jI M 45 9 = nI p) (hQ : ∀ M, NS M0 M t p (tnd t bb p - p) (soP t bb p) (woP t bb p) → Q M) : wX12_next_23 45 M Q := by
  have hs1 := f.sh.mpr hs
  obtain ⟨hby, ht4⟩ := id hb
  have f2 : jFr [45] M0 (uJ (uI M 45 10 (nI p)) 45 12 0) := (f.uI (by decide)).uJ (by decide)
  have k2 : jFk 45 [9, 10, 11, 12] M0 (uJ (uI M 45 10 (nI p)) 45 12 0) := (k.sI (by decide)).sJ (by decide)
  have a9 : jI (uJ (uI M 45 10 (nI p)) 45 12 0) 45 9 = nI p := by simp only [jN_uI, jN_uJ, jN_uR, jK_uI, jK_uJ, jK_uR, jZ_uI, jZ_uJ, jZ_uR, jR_uI, jR_uJ, jr_uI, jr_uJ, jI_uJ, jI_uR, jJ_uI, jJ_uR, jI_uI_eq, jI_uI_ne, jJ_uJ_eq, jJ_uJ_ne, jSh_uI, jSh_uJ, jA_uI, jA_uJ, jA_uR, jI_uIf_eq, jI_uIf_ne, jJ_uIf, jR_uIf, jr_uIf, jZ_uIf, jSh_uIf, jA_uIf, ne_eq, not_false_eq_true, not_true_eq_false, reduceCtorEq, Nat.reduceEqDiff, forall_eq, true_and, and_true, true_implies, forall_const, implies_true, List.mem_cons, List.not_mem_nil, or_false, false_or, or_self, if_true, if_false, reduceIte, Nat.reduceAdd, Nat.reduceMul, Nat.reduceLT, false_implies, Decidable.not_not, bI_eq0, bI_eq1, upd_at, updL_at, Nat.succ_ne_zero, Int32.reduceToNatClampNeg, eq_self, i01, i10]; exact g9
  have a10 : jI (uJ (uI M 45 10 (nI p)) 45 12 0) 45 10 = nI p := by simp only [jN_uI, jN_uJ, jN_uR, jK_uI, jK_uJ, jK_uR, jZ_uI, jZ_uJ, jZ_uR, jR_uI, jR_uJ, jr_uI, jr_uJ, jI_uJ, jI_uR, jJ_uI, jJ_uR, jI_uI_eq, jI_uI_ne, jJ_uJ_eq, jJ_uJ_ne, jSh_uI, jSh_uJ, jA_uI, jA_uJ, jA_uR, jI_uIf_eq, jI_uIf_ne, jJ_uIf, jR_uIf, jr_uIf, jZ_uIf, jSh_uIf, jA_uIf, ne_eq, not_false_eq_true, not_true_eq_false, reduceCtorEq, Nat.reduceEqDiff, forall_eq, true_and, and_true, true_implies, forall_const, implies_true, List.mem_cons, List.not_mem_nil, or_false, false_or, or_self, if_true, if_false, reduceIte, Nat.reduceAdd, Nat.reduceMul, Nat.reduceLT, false_implies, Decidable.not_not, bI_eq0, bI_eq1, upd_at, updL_at, Nat.succ_ne_zero, Int32.reduceToNatClampNeg, eq_self, i01, i10]
  have a12 : jJ (uJ (uI M 45 10 (nI p)) 45 12 0) 45 12 = 0 := by simp only [jN_uI, jN_uJ, jN_uR, jK_uI, jK_uJ, jK_uR, jZ_uI, jZ_uJ, jZ_uR, jR_uI, jR_uJ, jr_uI, jr_uJ, jI_uJ, jI_uR, jJ_uI, jJ_uR, jI_uI_eq, jI_uI_ne, jJ_uJ_eq, jJ_uJ_ne, jSh_uI, jSh_uJ, jA_uI, jA_uJ, jA_uR, jI_uIf_eq, jI_uIf_ne, jJ_uIf, jR_uIf, jr_uIf, jZ_uIf, jSh_uIf, jA_uIf, ne_eq, not_false_eq_true, not_true_eq_false, reduceCtorEq, Nat.reduceEqDiff, forall_eq, true_and, and_true, true_implies, forall_const, implies_true, List.mem_cons, List.not_mem_nil, or_false, false_or, or_self, if_true, if_false, reduceIte, Nat.reduceAdd, Nat.reduceMul, Nat.reduceLT, false_implies, Decidable.not_not, bI_eq0, bI_eq1, upd_at, updL_at, Nat.succ_ne_zero, Int32.reduceToNatClampNeg, eq_self, i01, i10]
  unfold wX12_next_23
  refine ⟨shA_45 hs1, fun S5 e5 => ?_⟩
  rw [g9] at e5
  subst e5
  refine ⟨shA_45 (by simp only [jN_uI, jN_uJ, jN_uR, jK_uI, jK_uJ, jK_uR, jZ_uI, jZ_uJ, jZ_uR, jR_uI, jR_uJ, jr_uI, jr_uJ, jI_uJ, jI_uR, jJ_uI, jJ_uR, jI_uI_eq, jI_uI_ne, jJ_uJ_eq, jJ_uJ_ne, jSh_uI, jSh_uJ, jA_uI, jA_uJ, jA_uR, jI_uIf_eq, jI_uIf_ne, jJ_uIf, jR_uIf, jr_uIf, jZ_uIf, jSh_uIf, jA_uIf]; exact hs1), fun S7 e7 => ?_⟩
  subst e7
  generalize uJ (uI M 45 10 (nI p)) 45 12 0 = M2 at f2 k2 a9 a10 a12 ⊢
  have hs2 := f2.sh.mpr hs
  have a8 : jI M2 45 8 = nI t := by rw [k2.I 8 (by decide)]; exact h8
  have fin : ∀ s, s = soP t bb p → wX12_next_57 45 (nI s) 45 M2 Q := fun s es => nx_57 hs hb h8 hp es ⟨f2, k2, a9, a10, a12⟩ hQ
  rw [a9, a8, nI_eq' (by omega) (by omega)]
  refine ⟨shA_45 hs2, fun z => ?_, fun z => fin 0 (by unfold soP; rw [if_pos (by omega)])⟩
  have hbt := hby p (by omega)
  have so : soP t bb p = cls (bb p) := by unfold soP; rw [if_neg (by omega)]
  have g50 : jI M2 50 p = nI (bb p) := by rw [f2.I 50 (by decide)]; exact hbt.1
  simp only [shA_45, shA_50, shZ_50, shR_45_2, shr_45_2, shR_45_3, shr_45_3, shR_45_4, shr_45_4, shR_45_5, shr_45_5, shR_45_7, shr_45_7, shR_45_16, shr_45_16, shR_45_18, shr_45_18, shR_45_19, shr_45_19, shR_45_21, shr_45_21, shR_45_22, shr_45_22, shR_45_25, shr_45_25, shR_45_26, shr_45_26, shR_45_28, shr_45_28, shR_45_29, shr_45_29, shR_45_33, shr_45_33, shR_45_34, shr_45_34, shR_45_35, shr_45_35, shR_45_36, shr_45_36, shR_45_37, shr_45_37, shR_45_38, shr_45_38, shR_45_39, shr_45_39, shR_45_40, shr_45_40, shR_45_42, shr_45_42, hs2, ne_eq, not_false_eq_true, not_true_eq_false, reduceCtorEq, Nat.reduceEqDiff, forall_eq, true_and, and_true, true_implies, forall_const, implies_true, List.mem_cons, List.not_mem_nil, or_false, false_or, or_self, if_true, if_false, reduceIte, Nat.reduceAdd, Nat.reduceMul, Nat.reduceLT, false_implies, Decidable.not_not, bI_eq0, bI_eq1, upd_at, updL_at, Nat.succ_ne_zero, Int32.reduceToNatClampNeg, eq_self, i01, i10]
  rw [nI_tn (by omega), g50]
  refine ⟨nI_in2 (by omega) (by omega), sX12_isSmall hbt.2 (fun c => ⟨fun y => absurd y (by decide), fun _ => fin 1 (by rw [so, c])⟩) (fun c1 => ⟨fun _ => ?_, fun y => absurd rfl y⟩)⟩
  simp only [shA_45, shA_50, shZ_50, shR_45_2, shr_45_2, shR_45_3, shr_45_3, shR_45_4, shr_45_4, shR_45_5, shr_45_5, shR_45_7, shr_45_7, shR_45_16, shr_45_16, shR_45_18, shr_45_18, shR_45_19, shr_45_19, shR_45_21, shr_45_21, shR_45_22, shr_45_22, shR_45_25, shr_45_25, shR_45_26, shr_45_26, shR_45_28, shr_45_28, shR_45_29, shr_45_29, shR_45_33, shr_45_33, shR_45_34, shr_45_34, shR_45_35, shr_45_35, shR_45_36, shr_45_36, shR_45_37, shr_45_37, shR_45_38, shr_45_38, shR_45_39, shr_45_39, shR_45_40, shr_45_40, shR_45_42, shr_45_42, hs2, a9, ne_eq, not_false_eq_true, not_true_eq_false, reduceCtorEq, Nat.reduceEqDiff, forall_eq, true_and, and_true, true_implies, forall_const, implies_true, List.mem_cons, List.not_mem_nil, or_false, false_or, or_self, if_true, if_false, reduceIte, Nat.reduceAdd, Nat.reduceMul, Nat.reduceLT, false_implies, Decidable.not_not, bI_eq0, bI_eq1, upd_at, updL_at, Nat.succ_ne_zero, Int32.reduceToNatClampNeg, eq_self, i01, i10]
  rw [nI_tn (by omega), g50]
  have c3 := cls3 (bb p)
  exact ⟨nI_in2 (by omega) (by omega), sX12_isDigit hbt.2 (fun c => ⟨fun y => absurd y (by decide), fun _ => fin 2 (by rw [so, c])⟩) (fun c2 => ⟨fun _ => fin 3 (by rw [so]; omega), fun y => absurd rfl y⟩)⟩
theorem nx_4 (hs : jSh M0) (hb : BY M0 t bb) (h8 : jI M0 45 8 = nI t) {p0 : Nat} (hp0 : p0 ≤ t) (hQ : ∀ M, NS M0 M t (skp t bb p0) (tnd t bb (skp t bb p0) - skp t bb p0) (soP t bb (skp t bb p0)) (woP t bb (skp t bb p0)) → Q M) : ∀ m x M, x + m = skp t bb p0 → p0 ≤ x → jFr [45] M0 M → jFk 45 [9, 10, 11, 12] M0 M → jI M 45 9 = nI x → wX12_next_4 45 M Q := by
  obtain ⟨a1, a2, a3, a4⟩ := skp_spec (bb := bb) hp0
  obtain ⟨hby, ht4⟩ := id hb
  intro m
  induction m with
  | zero =>
    intro x M e0 hx f k g9
    have ex : x = skp t bb p0 := by omega
    have hs1 := f.sh.mpr hs
    have g8 : jI M 45 8 = nI t := by rw [k.I 8 (by decide)]; exact h8
    have fin : wX12_next_23 45 M Q := nx_23 hs hb h8 a2 f k (by rw [g9, ex]) hQ
    refine n4_roll (fun K _ => ?_)
    unfold bX12_next_4
    simp only [shA_45, shA_50, shZ_50, shR_45_2, shr_45_2, shR_45_3, shr_45_3, shR_45_4, shr_45_4, shR_45_5, shr_45_5, shR_45_7, shr_45_7, shR_45_16, shr_45_16, shR_45_18, shr_45_18, shR_45_19, shr_45_19, shR_45_21, shr_45_21, shR_45_22, shr_45_22, shR_45_25, shr_45_25, shR_45_26, shr_45_26, shR_45_28, shr_45_28, shR_45_29, shr_45_29, shR_45_33, shr_45_33, shR_45_34, shr_45_34, shR_45_35, shr_45_35, shR_45_36, shr_45_36, shR_45_37, shr_45_37, shR_45_38, shr_45_38, shR_45_39, shr_45_39, shR_45_40, shr_45_40, shR_45_42, shr_45_42, hs1, g8, g9, ne_eq, not_false_eq_true, not_true_eq_false, reduceCtorEq, Nat.reduceEqDiff, forall_eq, true_and, and_true, true_implies, forall_const, implies_true, List.mem_cons, List.not_mem_nil, or_false, false_or, or_self, if_true, if_false, reduceIte, Nat.reduceAdd, Nat.reduceMul, Nat.reduceLT, false_implies, Decidable.not_not, bI_eq0, bI_eq1, upd_at, updL_at, Nat.succ_ne_zero, Int32.reduceToNatClampNeg, eq_self, i01, i10]
    rw [nI_le' (by omega) (by omega)]
    refine ⟨fun _ => fin, fun z => ?_⟩
    have hbt := hby x (by omega)
    rw [nI_tn (by omega), f.I 50 (by decide), hbt.1]
    refine ⟨nI_in2 (by omega) (by omega), fun _ => fin, fun y => ?_⟩
    rw [show (32 : Int32) = nI 32 from rfl, nI_eq' (by omega) (by omega), ex] at y
    exact absurd y (a4 (by omega))
  | succ m ih =>
    intro x M e0 hx f k g9
    have hs1 := f.sh.mpr hs
    have g8 : jI M 45 8 = nI t := by rw [k.I 8 (by decide)]; exact h8
    refine n4_roll (fun K hK => ?_)
    have hbt := hby x (by omega)
    have b32 := a3 x hx (by omega)
    unfold bX12_next_4
    simp only [shA_45, shA_50, shZ_50, shR_45_2, shr_45_2, shR_45_3, shr_45_3, shR_45_4, shr_45_4, shR_45_5, shr_45_5, shR_45_7, shr_45_7, shR_45_16, shr_45_16, shR_45_18, shr_45_18, shR_45_19, shr_45_19, shR_45_21, shr_45_21, shR_45_22, shr_45_22, shR_45_25, shr_45_25, shR_45_26, shr_45_26, shR_45_28, shr_45_28, shR_45_29, shr_45_29, shR_45_33, shr_45_33, shR_45_34, shr_45_34, shR_45_35, shr_45_35, shR_45_36, shr_45_36, shR_45_37, shr_45_37, shR_45_38, shr_45_38, shR_45_39, shr_45_39, shR_45_40, shr_45_40, shR_45_42, shr_45_42, hs1, g8, g9, ne_eq, not_false_eq_true, not_true_eq_false, reduceCtorEq, Nat.reduceEqDiff, forall_eq, true_and, and_true, true_implies, forall_const, implies_true, List.mem_cons, List.not_mem_nil, or_false, false_or, or_self, if_true, if_false, reduceIte, Nat.reduceAdd, Nat.reduceMul, Nat.reduceLT, false_implies, Decidable.not_not, bI_eq0, bI_eq1, upd_at, updL_at, Nat.succ_ne_zero, Int32.reduceToNatClampNeg, eq_self, i01, i10]
    rw [nI_le' (by omega) (by omega), nI_tn (by omega), f.I 50 (by decide), hbt.1, nI_1]
    refine ⟨fun z => by omega, fun _ => ⟨nI_in2 (by omega) (by omega), fun z => ?_, fun _ => hK _ (ih (x + 1) _ (by omega) (by omega) (f.uI (by decide)) (k.sI (by decide)) (by simp only [jN_uI, jN_uJ, jN_uR, jK_uI, jK_uJ, jK_uR, jZ_uI, jZ_uJ, jZ_uR, jR_uI, jR_uJ, jr_uI, jr_uJ, jI_uJ, jI_uR, jJ_uI, jJ_uR, jI_uI_eq, jI_uI_ne, jJ_uJ_eq, jJ_uJ_ne, jSh_uI, jSh_uJ, jA_uI, jA_uJ, jA_uR, jI_uIf_eq, jI_uIf_ne, jJ_uIf, jR_uIf, jr_uIf, jZ_uIf, jSh_uIf, jA_uIf, ne_eq, not_false_eq_true, not_true_eq_false, reduceCtorEq, Nat.reduceEqDiff, forall_eq, true_and, and_true, true_implies, forall_const, implies_true, List.mem_cons, List.not_mem_nil, or_false, false_or, or_self, if_true, if_false, reduceIte, Nat.reduceAdd, Nat.reduceMul, Nat.reduceLT, false_implies, Decidable.not_not, bI_eq0, bI_eq1, upd_at, updL_at, Nat.succ_ne_zero, Int32.reduceToNatClampNeg, eq_self, i01, i10]))⟩⟩
    rw [b32] at z; exact absurd rfl z
/-- next: the token behind place p0 -/
theorem nx_all {p0 : Nat} (hs : jSh M0) (hb : BY M0 t bb) (h8 : jI M0 45 8 = nI t) (h10 : jI M0 45 10 = nI p0) (hp0 : p0 ≤ t) (hQ : ∀ M, NS M0 M t (skp t bb p0) (tnd t bb (skp t bb p0) - skp t bb p0) (soP t bb (skp t bb p0)) (woP t bb (skp t bb p0)) → Q M) : wX12_next 45 M0 Q := by
  have a1 := (skp_spec (bb := bb) hp0).1
  unfold wX12_next
  refine ⟨shA_45 hs, fun S2 e2 => ?_⟩
  rw [h10] at e2
  subst e2
  exact nx_4 hs hb h8 hp0 hQ (skp t bb p0 - p0) p0 _ (by omega) (Nat.le_refl _) ((jFr.refl _ _).uI (by decide)) ((jFk.refl _ _ _).sI (by decide)) (by simp only [jN_uI, jN_uJ, jN_uR, jK_uI, jK_uJ, jK_uR, jZ_uI, jZ_uJ, jZ_uR, jR_uI, jR_uJ, jr_uI, jr_uJ, jI_uJ, jI_uR, jJ_uI, jJ_uR, jI_uI_eq, jI_uI_ne, jJ_uJ_eq, jJ_uJ_ne, jSh_uI, jSh_uJ, jA_uI, jA_uJ, jA_uR, jI_uIf_eq, jI_uIf_ne, jJ_uIf, jR_uIf, jr_uIf, jZ_uIf, jSh_uIf, jA_uIf, ne_eq, not_false_eq_true, not_true_eq_false, reduceCtorEq, Nat.reduceEqDiff, forall_eq, true_and, and_true, true_implies, forall_const, implies_true, List.mem_cons, List.not_mem_nil, or_false, false_or, or_self, if_true, if_false, reduceIte, Nat.reduceAdd, Nat.reduceMul, Nat.reduceLT, false_implies, Decidable.not_not, bI_eq0, bI_eq1, upd_at, updL_at, Nat.succ_ne_zero, Int32.reduceToNatClampNeg, eq_self, i01, i10])
theorem NS.tm {M i} (h13 : jI M0 45 13 = -1) (h8 : jI M0 45 8 = nI t) (hb : BY M0 t bb) (h : NS M0 M t (tkA t bb i) (tnd t bb (tkA t bb i) - tkA t bb i) (soP t bb (tkA t bb i)) (woP t bb (tkA t bb i))) : TM t (tkA t bb) (fun i => tnd t bb (tkA t bb i)) (fun i => soP t bb (tkA t bb i)) bb (fun i => woP t bb (tkA t bb i)) M i := by
  obtain ⟨f, k, g9, g10, g11, g12⟩ := h
  have : tkA t bb i ≤ tnd t bb (tkA t bb i) := by
    rcases Nat.lt_or_ge (tkA t bb i) t with z | z
    · exact Nat.le_of_lt (tkA_lt z).1
    · rw [tnd_t z]; exact Nat.le_refl _
  refine ⟨by rw [k.I 8 (by decide)]; exact h8, g9, ?_, g11, g12, fun j hj => by rw [f.I 50 (by decide)]; exact (hb.1 j hj).1, by rw [k.I 13 (by decide)]; exact h13⟩
  rw [g10, show tkA t bb i + (tnd t bb (tkA t bb i) - tkA t bb i) = tnd t bb (tkA t bb i) by omega]
theorem nx_ok {e : Nat} (ht : t ≤ 400) (hb : ∀ j, j < t → bb j < 256) (hi : ∀ i, i < e → tkA t bb i < t) : NxOk t e (tkA t bb) (fun i => tnd t bb (tkA t bb i)) (fun i => soP t bb (tkA t bb i)) bb (fun i => woP t bb (tkA t bb i)) := by
  intro M i Q hs hT hie hQ
  obtain ⟨g8, g9, g10, g11, g12, g50, g13⟩ := hT
  have hb' : BY M t bb := ⟨fun j hj => ⟨g50 j hj, hb j hj⟩, ht⟩
  have l := tkA_lt (hi i hie)
  exact nx_all hs hb' g8 g10 l.2.2 (fun M1 h1 => hQ M1 h1.1 h1.2.1 (NS.tm (i := i + 1) g13 g8 hb' h1))
theorem cx_ok {e : Nat} (ht : t ≤ 400) (hb : ∀ j, j < t → bb j < 256) (he : tkA t bb e = t) (hi : ∀ i, i < e → tkA t bb i < t) : Cx t e (tkA t bb) (fun i => tnd t bb (tkA t bb i)) (fun i => sgP t bb (tkA t bb i)) (fun i => vlP t bb (tkA t bb i)) (fun i => soP t bb (tkA t bb i)) bb (fun i => woP t bb (tkA t bb i)) := ⟨tk_ok ht he hi, fun i _ => lx_at hb (tkA t bb i), nx_ok ht hb hi⟩
end NEXT
