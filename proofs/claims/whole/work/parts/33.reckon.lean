/-! THE MODEL'S RECKONING -/
theorem nI_m1 {n : Nat} (h : 0 < n) : nI n - 1 = nI (n - 1) := by obtain ⟨m, rfl⟩ : ∃ m, n = m + 1 := ⟨n - 1, by omega⟩; exact nI_pred m
theorem nI_p1 {n : Nat} (h : 0 < n) : nI n + -1 = nI (n - 1) := by rw [← nI_m1 h]; lia
theorem ix1 (base k : Nat) : nI base + 98 + 2 * nI k = nI (base + 98 + 2 * k) := by rw [show (98 : Int32) = nI 98 from rfl, show (2 : Int32) = nI 2 from rfl, nI_mul, nI_add, nI_add]
def stk (J : Nat → Int64) : List Int64 → Prop
  | [] => True
  | x :: st => J st.length = x ∧ stk J st
theorem stk_upd {J : Nat → Int64} {i : Nat} {v : Int64} : ∀ {st : List Int64}, stk J st → st.length ≤ i → stk (vp_updL J i v) st
  | [], _, _ => trivial
  | x :: st, h, hi => ⟨by rw [updL_at, if_neg (by simp only [List.length_cons] at hi; omega)]; exact h.1, stk_upd h.2 (by simp only [List.length_cons] at hi; omega)⟩
theorem sX12_in {S : JS} {v lo hi : Int64} {Q : Int32 → JS → Prop} (h : Q (bI (lo ≤ v ∧ v ≤ hi)) S) : wX12_in v lo hi S Q := by
  unfold wX12_in
  rw [lg_cmp_lt, lg_cmp_gt]
  refine ⟨fun q => ?_, fun q => ⟨fun q2 => ?_, fun q2 => ?_⟩⟩
  · rw [bI_F (by lia)] at h; exact h
  · rw [bI_F (by lia)] at h; exact h
  · rw [bI_T (by lia)] at h; exact h
theorem sX12_reckon {S : JS} {o : Int32} {a b : Int64} {Q : Int64 → JS → Prop} (hs : jSh S) (h1 : 20 ≤ o) (h2 : o < 27) (hb : jI S 45 30 = 0) (h : ∀ S', (o = 23 ∧ b = 0 → S' = uI S 45 30 1) → (¬ (o = 23 ∧ b = 0) → S' = S ∨ S' = uI S 45 30 0) → Q (rkF o a b) S') : wX12_reckon 45 o a b S Q := by
  unfold wX12_reckon wX12_reckon_22
  simp only [lg_cmp_eq, lg_cmp_ge, lg_cmp_le, shA_45 hs, jN_uI, jN_uJ, jN_uR, jK_uI, jK_uJ, jK_uR, jZ_uI, jZ_uJ, jZ_uR, jR_uI, jR_uJ, jr_uI, jr_uJ, jI_uJ, jI_uR, jJ_uI, jJ_uR, jI_uI_eq, jI_uI_ne, jJ_uJ_eq, jJ_uJ_ne, jSh_uI, jSh_uJ, jA_uI, jA_uJ, jA_uR, jI_uIf_eq, jI_uIf_ne, jJ_uIf, jR_uIf, jr_uIf, jZ_uIf, jSh_uIf, jA_uIf, ne_eq, not_false_eq_true, not_true_eq_false, reduceCtorEq, Nat.reduceEqDiff, forall_eq, true_and, and_true, true_implies, forall_const, implies_true, List.mem_cons, List.not_mem_nil, or_false, false_or, or_self, if_true, if_false, reduceIte, Nat.reduceAdd, Nat.reduceMul, Nat.reduceLT, false_implies, Decidable.not_not, bI_eq0, bI_eq1, upd_at, updL_at, Nat.succ_ne_zero, Int32.reduceToNatClampNeg]
  unfold rkF at h
  refine ⟨fun q => ?_, fun n0 => ⟨fun q => ?_, fun n1 => ⟨fun q => ?_, fun n2 => ⟨fun q => ⟨fun q2 => ?_, fun q2 => ?_⟩, fun n3 => ⟨fun q => ⟨fun q2 => ?_, fun q2 => ?_⟩, fun n4 => ⟨fun q => ⟨fun q2 => ?_, fun q2 => ?_⟩, fun n5 => ⟨fun q2 => ?_, fun q2 => ?_⟩⟩⟩⟩⟩⟩⟩
  · have h := h S (fun z => by lia) (fun _ => Or.inl rfl); rw [if_pos q] at h; exact h
  · have h := h S (fun z => by lia) (fun _ => Or.inl rfl); rw [if_neg n0, if_pos q] at h; exact h
  · have h := h S (fun z => by lia) (fun _ => Or.inl rfl); rw [if_neg n0, if_neg n1, if_pos q] at h; exact h
  · refine ⟨Or.inl rfl, q2, ?_⟩
    have h := h (uI S 45 30 0) (fun z => absurd z.2 q2) (fun _ => Or.inr rfl); rw [if_neg n0, if_neg n1, if_neg n2, if_pos q, if_neg q2] at h; exact h
  · refine ⟨Or.inr rfl, fun z => absurd z (by decide), fun _ => ?_⟩
    have h := h (uI S 45 30 1) (fun z => rfl) (fun z => absurd ⟨q, q2⟩ z); rw [if_neg n0, if_neg n1, if_neg n2, if_pos q, if_pos q2] at h; exact h
  · have h := h S (fun z => by lia) (fun _ => Or.inl rfl); rw [if_neg n0, if_neg n1, if_neg n2, if_neg n3, if_pos q, if_neg (by lia)] at h; exact h
  · have h := h S (fun z => by lia) (fun _ => Or.inl rfl); rw [if_neg n0, if_neg n1, if_neg n2, if_neg n3, if_pos q, if_pos (by lia)] at h; exact h
  · have h := h S (fun z => by lia) (fun _ => Or.inl rfl); rw [if_neg n0, if_neg n1, if_neg n2, if_neg n3, if_neg n4, if_pos q, if_neg (by lia)] at h; exact h
  · have h := h S (fun z => by lia) (fun _ => Or.inl rfl); rw [if_neg n0, if_neg n1, if_neg n2, if_neg n3, if_neg n4, if_pos q, if_pos (by lia)] at h; exact h
  · have h := h S (fun z => by lia) (fun _ => Or.inl rfl); rw [if_neg n0, if_neg n1, if_neg n2, if_neg n3, if_neg n4, if_neg n5, if_neg q2] at h; exact h
  · have h := h S (fun z => by lia) (fun _ => Or.inl rfl); rw [if_neg n0, if_neg n1, if_neg n2, if_neg n3, if_neg n4, if_neg n5, if_pos q2] at h; exact h
theorem sX12_reckonAll {S : JS} {Q : JS → Prop} {a b base : Nat} {f : JF} {env : Nat → Int64} (hs : jSh S) (hl : jI S 45 27 = nI base) (hbase : base ≤ 4700) (hb : b ≤ 400) (hD : mD (fun k => jI S 47 (base + 98 + 2 * k)) (fun k => jI S 47 (base + 98 + 2 * k + 1)) a b f) (he : ∀ k, 0 < k → k < 7 → jJ S 58 k = env k) (h : ∀ S', jFr [45, 59] S S' → jFk 45 [30, 31] S S' → (∀ v, f env = some v → jI S' 45 30 = 0 ∧ jJ S' 45 31 = v) → (f env = none → jI S' 45 30 = 1) → Q S') : wX12_reckonAll 45 (nI a) (nI b) S Q := by
  unfold wX12_reckonAll
  refine ⟨shA_45 hs, fun S0 e0 => ?_⟩
  have f0 : jFr [45, 59] S S0 := e0 ▸ (jFr.refl _ _).uI (by decide)
  have k0 : jFk 45 [30, 31] S S0 := e0 ▸ (jFk.refl _ _ _).sI (by decide)
  have b0 : jI S0 45 30 = 0 := by rw [e0]; simp only [jN_uI, jN_uJ, jN_uR, jK_uI, jK_uJ, jK_uR, jZ_uI, jZ_uJ, jZ_uR, jR_uI, jR_uJ, jr_uI, jr_uJ, jI_uJ, jI_uR, jJ_uI, jJ_uR, jI_uI_eq, jI_uI_ne, jJ_uJ_eq, jJ_uJ_ne, jSh_uI, jSh_uJ, jA_uI, jA_uJ, jA_uR, jI_uIf_eq, jI_uIf_ne, jJ_uIf, jR_uIf, jr_uIf, jZ_uIf, jSh_uIf, jA_uIf, ne_eq, not_false_eq_true, not_true_eq_false, reduceCtorEq, Nat.reduceEqDiff, forall_eq, true_and, and_true, true_implies, forall_const, implies_true, List.mem_cons, List.not_mem_nil, or_false, false_or, or_self, if_true, if_false, reduceIte, Nat.reduceAdd, Nat.reduceMul, Nat.reduceLT, false_implies, Decidable.not_not, bI_eq0, bI_eq1, upd_at, updL_at, Nat.succ_ne_zero, Int32.reduceToNatClampNeg]
  unfold wX12_reckonAll_7
  generalize hF : (fun (X7 : Nat × Int32 × Int32 × Int32 × JS → Prop) (q : Nat × Int32 × Int32 × Int32 × JS) => bX12_reckonAll_7 (fun l0 l2 l3 l4 S => X7 (l0, l2, l3, l4, S)) q.1 q.2.1 q.2.2.1 q.2.2.2.1 q.2.2.2.2 Q) = F
  have hq1 := hD.1
  have body : ∀ n k S1, bX12_reckonAll_7 (fun l0 l2 l3 l4 S => jLoop F (l0, l2, l3, l4, S)) 45 (nI b) (nI n) (nI k) S1 Q → jLoop F (45, nI b, nI n, nI k, S1) := by
    intro n k S1 hh; refine jLoop.roll ?_; rw [← hF]; rw [← hF] at hh; exact hh
  -- a broken one ends the loop
  have brk : ∀ n k S1, jFr [45, 59] S S1 → jFk 45 [30, 31] S S1 → jI S1 45 30 = 1 → n < 400 → k ≤ b → f env = none → jLoop F (45, nI b, nI n, nI k, S1) := by
    intro n k S1 f1 k1 b1 hn hk hf
    have hs1 : jSh S1 := f1.sh.mpr hs
    refine body _ _ _ ?_
    unfold bX12_reckonAll_7 wX12_reckonAll_137
    rw [nI_le' (by omega) (by omega), b1]
    have ex : (nI n ≤ 0 → jA S1 45 12 ∧ (∀ S4 : JS, S4 = uJ S1 45 31 0 → Q S4)) ∧ (¬ nI n ≤ 0 → jA S1 45 12 ∧ (¬ jR S1 45 29 = none ∧ (jA S1 (jr S1 45 29) 14 ∧ (vp_in (0 : Int32) (jZ S1 (jr S1 45 29)) ∧ (∀ S9 : JS, S9 = uJ S1 45 31 (jJ S1 (jr S1 45 29) (0 : Int32).toNatClampNeg) → Q S9))))) := by
      have fin : ∀ v, Q (uJ S1 45 31 v) := fun v => h _ (f1.uJ (by decide)) (k1.sJ (by decide)) (fun w hw => by rw [hf] at hw; cases hw) (fun _ => b1)
      simp only [shA_45, shA_59, shZ_59, shR_45_2, shr_45_2, shR_45_3, shr_45_3, shR_45_4, shr_45_4, shR_45_5, shr_45_5, shR_45_7, shr_45_7, shR_45_16, shr_45_16, shR_45_18, shr_45_18, shR_45_19, shr_45_19, shR_45_21, shr_45_21, shR_45_22, shr_45_22, shR_45_25, shr_45_25, shR_45_26, shr_45_26, shR_45_28, shr_45_28, shR_45_29, shr_45_29, shR_45_33, shr_45_33, shR_45_34, shr_45_34, shR_45_35, shr_45_35, shR_45_36, shr_45_36, shR_45_37, shr_45_37, shR_45_38, shr_45_38, shR_45_39, shr_45_39, shR_45_40, shr_45_40, shR_45_42, shr_45_42, hs1, vpin_2, vpin_3, vpin_4, vpin_5, vpin_6, vpin_7, vpin_9, vpin_12, vpin_13, vpin_16, vpin_32, vpin_60, vpin_96, vpin_400, vpin_401, vpin_540, vpin_4320, vpin_4608, vpin_5600, vpin_11200, vpin_276480, ne_eq, not_false_eq_true, not_true_eq_false, reduceCtorEq, Nat.reduceEqDiff, forall_eq, true_and, and_true, true_implies, forall_const, implies_true, List.mem_cons, List.not_mem_nil, or_false, false_or, or_self, if_true, if_false, reduceIte, Nat.reduceAdd, Nat.reduceMul, Nat.reduceLT, false_implies, Decidable.not_not, bI_eq0, bI_eq1, upd_at, updL_at, Nat.succ_ne_zero, Int32.reduceToNatClampNeg]
      exact ⟨fun _ => fin _, fun _ => ⟨by decide, fin _⟩⟩
    exact ⟨fun _ => ex, fun _ => ⟨shA_45 hs1, fun _ => ex, fun z => absurd z (by decide)⟩⟩
  have key := hD.2 env b (f env = none) (fun k st => k ≤ b → st.length ≤ k → ∀ S1, jFr [45, 59] S S1 → jFk 45 [30, 31] S S1 → jI S1 45 30 = 0 → stk (jJ S1 59) st → jLoop F (45, nI b, nI st.length, nI k, S1)) [] (Nat.le_refl _) ⟨?_, ?_, ?_, ?_, ?_, ?_⟩ id ?_
  · exact key (by omega) (Nat.zero_le _) S0 f0 k0 b0 trivial
  · intro k st hk ho hp _ hn S1 f1 k1 b1 s1
    have hs1 : jSh S1 := f1.sh.mpr hs
    refine body _ _ _ ?_
    unfold bX12_reckonAll_7 wX12_reckonAll_55
    rw [nI_le' (by omega) (by omega)]
    simp only [shA_45, shA_47, shZ_47, shA_58, shZ_58, shA_59, shZ_59, shR_45_2, shr_45_2, shR_45_3, shr_45_3, shR_45_4, shr_45_4, shR_45_5, shr_45_5, shR_45_7, shr_45_7, shR_45_16, shr_45_16, shR_45_18, shr_45_18, shR_45_19, shr_45_19, shR_45_21, shr_45_21, shR_45_22, shr_45_22, shR_45_25, shr_45_25, shR_45_26, shr_45_26, shR_45_28, shr_45_28, shR_45_29, shr_45_29, shR_45_33, shr_45_33, shR_45_34, shr_45_34, shR_45_35, shr_45_35, shR_45_36, shr_45_36, shR_45_37, shr_45_37, shR_45_38, shr_45_38, shR_45_39, shr_45_39, shR_45_40, shr_45_40, shR_45_42, shr_45_42, hs1, k1.I 27 (by decide), hl, ix1, b1, f1.I 47 (by decide), f1.J 58 (by decide), jN_uI, jN_uJ, jN_uR, jK_uI, jK_uJ, jK_uR, jZ_uI, jZ_uJ, jZ_uR, jR_uI, jR_uJ, jr_uI, jr_uJ, jI_uJ, jI_uR, jJ_uI, jJ_uR, jI_uI_eq, jI_uI_ne, jJ_uJ_eq, jJ_uJ_ne, jSh_uI, jSh_uJ, jA_uI, jA_uJ, jA_uR, jI_uIf_eq, jI_uIf_ne, jJ_uIf, jR_uIf, jr_uIf, jZ_uIf, jSh_uIf, jA_uIf, ne_eq, not_false_eq_true, not_true_eq_false, reduceCtorEq, Nat.reduceEqDiff, forall_eq, true_and, and_true, true_implies, forall_const, implies_true, List.mem_cons, List.not_mem_nil, or_false, false_or, or_self, if_true, if_false, reduceIte, Nat.reduceAdd, Nat.reduceMul, Nat.reduceLT, false_implies, Decidable.not_not, bI_eq0, bI_eq1, upd_at, updL_at, Nat.succ_ne_zero, Int32.reduceToNatClampNeg]
    refine ⟨fun q => absurd q (by omega), fun _ => ⟨nI_in2 (by omega) (by omega), ?_⟩⟩
    rw [nI_tn (by omega), nI_1, nI_tn (by omega)]
    refine ⟨nI_in2 (by omega) (by omega), ?_⟩
    simp only at ho
    refine ⟨fun q => absurd q (by lia), fun _ => ⟨fun q => absurd ho q, fun _ => ⟨nI_in2 (by omega) (by omega), ?_⟩⟩⟩
    unfold wX12_reckonAll_136
    rw [nI_tn (by omega), nI_1, nI_1]
    exact hp (by omega) (by simp only [List.length_cons]; omega) _ (f1.uJ (by decide)) (k1.oJ (by decide)) b1 ⟨by simp only [jN_uI, jN_uJ, jN_uR, jK_uI, jK_uJ, jK_uR, jZ_uI, jZ_uJ, jZ_uR, jR_uI, jR_uJ, jr_uI, jr_uJ, jI_uJ, jI_uR, jJ_uI, jJ_uR, jI_uI_eq, jI_uI_ne, jJ_uJ_eq, jJ_uJ_ne, jSh_uI, jSh_uJ, jA_uI, jA_uJ, jA_uR, jI_uIf_eq, jI_uIf_ne, jJ_uIf, jR_uIf, jr_uIf, jZ_uIf, jSh_uIf, jA_uIf, ne_eq, not_false_eq_true, not_true_eq_false, reduceCtorEq, Nat.reduceEqDiff, forall_eq, true_and, and_true, true_implies, forall_const, implies_true, List.mem_cons, List.not_mem_nil, or_false, false_or, or_self, if_true, if_false, reduceIte, Nat.reduceAdd, Nat.reduceMul, Nat.reduceLT, false_implies, Decidable.not_not, bI_eq0, bI_eq1, upd_at, updL_at, Nat.succ_ne_zero, Int32.reduceToNatClampNeg], by rw [jJ_uJ_eq]; exact stk_upd s1 (Nat.le_refl _)⟩
  · intro k st hk ho ho2 hp _ hn S1 f1 k1 b1 s1
    have hs1 : jSh S1 := f1.sh.mpr hs
    refine body _ _ _ ?_
    unfold bX12_reckonAll_7 wX12_reckonAll_55
    rw [nI_le' (by omega) (by omega)]
    simp only [shA_45, shA_47, shZ_47, shA_58, shZ_58, shA_59, shZ_59, shR_45_2, shr_45_2, shR_45_3, shr_45_3, shR_45_4, shr_45_4, shR_45_5, shr_45_5, shR_45_7, shr_45_7, shR_45_16, shr_45_16, shR_45_18, shr_45_18, shR_45_19, shr_45_19, shR_45_21, shr_45_21, shR_45_22, shr_45_22, shR_45_25, shr_45_25, shR_45_26, shr_45_26, shR_45_28, shr_45_28, shR_45_29, shr_45_29, shR_45_33, shr_45_33, shR_45_34, shr_45_34, shR_45_35, shr_45_35, shR_45_36, shr_45_36, shR_45_37, shr_45_37, shR_45_38, shr_45_38, shR_45_39, shr_45_39, shR_45_40, shr_45_40, shR_45_42, shr_45_42, hs1, k1.I 27 (by decide), hl, ix1, b1, f1.I 47 (by decide), f1.J 58 (by decide), jN_uI, jN_uJ, jN_uR, jK_uI, jK_uJ, jK_uR, jZ_uI, jZ_uJ, jZ_uR, jR_uI, jR_uJ, jr_uI, jr_uJ, jI_uJ, jI_uR, jJ_uI, jJ_uR, jI_uI_eq, jI_uI_ne, jJ_uJ_eq, jJ_uJ_ne, jSh_uI, jSh_uJ, jA_uI, jA_uJ, jA_uR, jI_uIf_eq, jI_uIf_ne, jJ_uIf, jR_uIf, jr_uIf, jZ_uIf, jSh_uIf, jA_uIf, ne_eq, not_false_eq_true, not_true_eq_false, reduceCtorEq, Nat.reduceEqDiff, forall_eq, true_and, and_true, true_implies, forall_const, implies_true, List.mem_cons, List.not_mem_nil, or_false, false_or, or_self, if_true, if_false, reduceIte, Nat.reduceAdd, Nat.reduceMul, Nat.reduceLT, false_implies, Decidable.not_not, bI_eq0, bI_eq1, upd_at, updL_at, Nat.succ_ne_zero, Int32.reduceToNatClampNeg]
    refine ⟨fun q => absurd q (by omega), fun _ => ⟨nI_in2 (by omega) (by omega), ?_⟩⟩
    rw [nI_tn (by omega), nI_1, nI_tn (by omega)]
    refine ⟨nI_in2 (by omega) (by omega), ?_⟩
    simp only at ho ho2
    refine ⟨fun q => absurd q (by lia), fun _ => ⟨fun _ => ⟨?_, nI_in2 (by omega) (by omega), ?_⟩, fun q => absurd q (by lia)⟩⟩
    · rw [vpin_13]; lia
    unfold wX12_reckonAll_136
    rw [nI_tn (by omega), nI_1, nI_1]
    refine hp (by omega) (by simp only [List.length_cons]; omega) _ (f1.uJ (by decide)) (k1.oJ (by decide)) b1 ⟨?_, by rw [jJ_uJ_eq]; exact stk_upd s1 (Nat.le_refl _)⟩
    simp only [jN_uI, jN_uJ, jN_uR, jK_uI, jK_uJ, jK_uR, jZ_uI, jZ_uJ, jZ_uR, jR_uI, jR_uJ, jr_uI, jr_uJ, jI_uJ, jI_uR, jJ_uI, jJ_uR, jI_uI_eq, jI_uI_ne, jJ_uJ_eq, jJ_uJ_ne, jSh_uI, jSh_uJ, jA_uI, jA_uJ, jA_uR, jI_uIf_eq, jI_uIf_ne, jJ_uIf, jR_uIf, jr_uIf, jZ_uIf, jSh_uIf, jA_uIf, ne_eq, not_false_eq_true, not_true_eq_false, reduceCtorEq, Nat.reduceEqDiff, forall_eq, true_and, and_true, true_implies, forall_const, implies_true, List.mem_cons, List.not_mem_nil, or_false, false_or, or_self, if_true, if_false, reduceIte, Nat.reduceAdd, Nat.reduceMul, Nat.reduceLT, false_implies, Decidable.not_not, bI_eq0, bI_eq1, upd_at, updL_at, Nat.succ_ne_zero, Int32.reduceToNatClampNeg]
    exact he _ (by
      have h7 : (0 : Int32).toNatClampNeg < (jI S 47 (base + 98 + 2 * k)).toNatClampNeg := (tn_lt (by decide) (by lia)).mpr ho
      exact h7) (by
      have h7 : (jI S 47 (base + 98 + 2 * k)).toNatClampNeg < (7 : Int32).toNatClampNeg := (tn_lt (by lia) (by decide)).mpr ho2
      exact h7)
  · intro k x y st hk ho ho2 hbd hp _ hn S1 f1 k1 b1 s1
    have hs1 : jSh S1 := f1.sh.mpr hs
    refine body _ _ _ ?_
    unfold bX12_reckonAll_7 wX12_reckonAll_55
    rw [nI_le' (by omega) (by omega)]
    simp only [shA_45, shA_47, shZ_47, shA_58, shZ_58, shA_59, shZ_59, shR_45_2, shr_45_2, shR_45_3, shr_45_3, shR_45_4, shr_45_4, shR_45_5, shr_45_5, shR_45_7, shr_45_7, shR_45_16, shr_45_16, shR_45_18, shr_45_18, shR_45_19, shr_45_19, shR_45_21, shr_45_21, shR_45_22, shr_45_22, shR_45_25, shr_45_25, shR_45_26, shr_45_26, shR_45_28, shr_45_28, shR_45_29, shr_45_29, shR_45_33, shr_45_33, shR_45_34, shr_45_34, shR_45_35, shr_45_35, shR_45_36, shr_45_36, shR_45_37, shr_45_37, shR_45_38, shr_45_38, shR_45_39, shr_45_39, shR_45_40, shr_45_40, shR_45_42, shr_45_42, hs1, k1.I 27 (by decide), hl, ix1, b1, f1.I 47 (by decide), f1.J 58 (by decide), jN_uI, jN_uJ, jN_uR, jK_uI, jK_uJ, jK_uR, jZ_uI, jZ_uJ, jZ_uR, jR_uI, jR_uJ, jr_uI, jr_uJ, jI_uJ, jI_uR, jJ_uI, jJ_uR, jI_uI_eq, jI_uI_ne, jJ_uJ_eq, jJ_uJ_ne, jSh_uI, jSh_uJ, jA_uI, jA_uJ, jA_uR, jI_uIf_eq, jI_uIf_ne, jJ_uIf, jR_uIf, jr_uIf, jZ_uIf, jSh_uIf, jA_uIf, ne_eq, not_false_eq_true, not_true_eq_false, reduceCtorEq, Nat.reduceEqDiff, forall_eq, true_and, and_true, true_implies, forall_const, implies_true, List.mem_cons, List.not_mem_nil, or_false, false_or, or_self, if_true, if_false, reduceIte, Nat.reduceAdd, Nat.reduceMul, Nat.reduceLT, false_implies, Decidable.not_not, bI_eq0, bI_eq1, upd_at, updL_at, Nat.succ_ne_zero, Int32.reduceToNatClampNeg]
    refine ⟨fun q => absurd q (by omega), fun _ => ⟨nI_in2 (by omega) (by omega), ?_⟩⟩
    rw [nI_tn (by omega), nI_1, nI_tn (by omega)]
    refine ⟨nI_in2 (by omega) (by omega), ?_⟩
    simp only [List.length_cons] at ho ho2 hbd hp hn ⊢
    refine ⟨fun _ => ⟨fun q => absurd q (by lia), fun _ => ?_⟩, fun q => absurd ho q⟩
    rw [nI_p1 (by omega), nI_m1 (by omega), show st.length + 1 + 1 - 1 = st.length + 1 by omega, show st.length + 1 - 1 = st.length by omega]
    refine ⟨nI_in2 (by omega) (by omega), nI_in2 (by omega) (by omega), ?_⟩
    rw [nI_tn (by omega), nI_tn (by omega), show jJ S1 59 (st.length + 1) = y from s1.1, show jJ S1 59 st.length = x from s1.2.1]
    refine sX12_reckon hs1 ho ho2 b1 (fun S2 z1 z2 => ?_)
    have f2 : jFr [45, 59] S S2 := by
      by_cases c : (jI S 47 (base + 98 + 2 * k) = 23 ∧ y = 0)
      · rw [z1 c]; exact f1.uI (by decide)
      · rcases z2 c with e | e <;> rw [e]
        · exact f1
        · exact f1.uI (by decide)
    have k2 : jFk 45 [30, 31] S S2 := by
      by_cases c : (jI S 47 (base + 98 + 2 * k) = 23 ∧ y = 0)
      · rw [z1 c]; exact k1.sI (by decide)
      · rcases z2 c with e | e <;> rw [e]
        · exact k1
        · exact k1.sI (by decide)
    have j2 : jJ S2 59 = jJ S1 59 := by
      by_cases c : (jI S 47 (base + 98 + 2 * k) = 23 ∧ y = 0)
      · rw [z1 c]; rfl
      · rcases z2 c with e | e <;> rw [e]; rfl
    have hs2 : jSh S2 := f2.sh.mpr hs
    have f3 : ∀ v i, jFr [45, 59] S (uJ S2 59 i v) := fun v i => f2.uJ (by decide)
    unfold wX12_reckonAll_95 wX12_reckonAll_98 wX12_reckonAll_136
    simp only [shA_45, shA_59, shZ_59, shR_45_2, shr_45_2, shR_45_3, shr_45_3, shR_45_4, shr_45_4, shR_45_5, shr_45_5, shR_45_7, shr_45_7, shR_45_16, shr_45_16, shR_45_18, shr_45_18, shR_45_19, shr_45_19, shR_45_21, shr_45_21, shR_45_22, shr_45_22, shR_45_25, shr_45_25, shR_45_26, shr_45_26, shR_45_28, shr_45_28, shR_45_29, shr_45_29, shR_45_33, shr_45_33, shR_45_34, shr_45_34, shR_45_35, shr_45_35, shR_45_36, shr_45_36, shR_45_37, shr_45_37, shR_45_38, shr_45_38, shR_45_39, shr_45_39, shR_45_40, shr_45_40, shR_45_42, shr_45_42, hs2, jN_uI, jN_uJ, jN_uR, jK_uI, jK_uJ, jK_uR, jZ_uI, jZ_uJ, jZ_uR, jR_uI, jR_uJ, jr_uI, jr_uJ, jI_uJ, jI_uR, jJ_uI, jJ_uR, jI_uI_eq, jI_uI_ne, jJ_uJ_eq, jJ_uJ_ne, jSh_uI, jSh_uJ, jA_uI, jA_uJ, jA_uR, jI_uIf_eq, jI_uIf_ne, jJ_uIf, jR_uIf, jr_uIf, jZ_uIf, jSh_uIf, jA_uIf, ne_eq, not_false_eq_true, not_true_eq_false, reduceCtorEq, Nat.reduceEqDiff, forall_eq, true_and, and_true, true_implies, forall_const, implies_true, List.mem_cons, List.not_mem_nil, or_false, false_or, or_self, if_true, if_false, reduceIte, Nat.reduceAdd, Nat.reduceMul, Nat.reduceLT, false_implies, Decidable.not_not, bI_eq0, bI_eq1, upd_at, updL_at, Nat.succ_ne_zero, Int32.reduceToNatClampNeg]
    rw [nI_1]
    have brk2 : rkOp (jI S 47 (base + 98 + 2 * k)) x y = none → jLoop F (45, nI b, nI (st.length + 1), nI (k + 1), uI (uJ S2 59 st.length (rkF (jI S 47 (base + 98 + 2 * k)) x y)) 45 30 1) := fun e => brk _ _ _ ((f3 _ _).uI (by decide)) ((k2.oJ (by decide)).sI (by decide)) (by simp only [jN_uI, jN_uJ, jN_uR, jK_uI, jK_uJ, jK_uR, jZ_uI, jZ_uJ, jZ_uR, jR_uI, jR_uJ, jr_uI, jr_uJ, jI_uJ, jI_uR, jJ_uI, jJ_uR, jI_uI_eq, jI_uI_ne, jJ_uJ_eq, jJ_uJ_ne, jSh_uI, jSh_uJ, jA_uI, jA_uJ, jA_uR, jI_uIf_eq, jI_uIf_ne, jJ_uIf, jR_uIf, jr_uIf, jZ_uIf, jSh_uIf, jA_uIf, ne_eq, not_false_eq_true, not_true_eq_false, reduceCtorEq, Nat.reduceEqDiff, forall_eq, true_and, and_true, true_implies, forall_const, implies_true, List.mem_cons, List.not_mem_nil, or_false, false_or, or_self, if_true, if_false, reduceIte, Nat.reduceAdd, Nat.reduceMul, Nat.reduceLT, false_implies, Decidable.not_not, bI_eq0, bI_eq1, upd_at, updL_at, Nat.succ_ne_zero, Int32.reduceToNatClampNeg]) (by omega) (by omega) (hbd e)
    refine ⟨nI_in2 (by omega) (by omega), fun q => ⟨Or.inr rfl, ?_⟩, fun q => ⟨nI_in2 (by omega) (by omega), ?_⟩⟩
    · have c : (jI S 47 (base + 98 + 2 * k) = 23 ∧ y = 0) := by
        apply Classical.byContradiction; intro c
        rcases z2 c with e | e <;> rw [e] at q
        · exact q b1
        · exact q (by simp only [jN_uI, jN_uJ, jN_uR, jK_uI, jK_uJ, jK_uR, jZ_uI, jZ_uJ, jZ_uR, jR_uI, jR_uJ, jr_uI, jr_uJ, jI_uJ, jI_uR, jJ_uI, jJ_uR, jI_uI_eq, jI_uI_ne, jJ_uJ_eq, jJ_uJ_ne, jSh_uI, jSh_uJ, jA_uI, jA_uJ, jA_uR, jI_uIf_eq, jI_uIf_ne, jJ_uIf, jR_uIf, jr_uIf, jZ_uIf, jSh_uIf, jA_uIf, ne_eq, not_false_eq_true, not_true_eq_false, reduceCtorEq, Nat.reduceEqDiff, forall_eq, true_and, and_true, true_implies, forall_const, implies_true, List.mem_cons, List.not_mem_nil, or_false, false_or, or_self, if_true, if_false, reduceIte, Nat.reduceAdd, Nat.reduceMul, Nat.reduceLT, false_implies, Decidable.not_not, bI_eq0, bI_eq1, upd_at, updL_at, Nat.succ_ne_zero, Int32.reduceToNatClampNeg])
      exact brk2 (by unfold rkOp; rw [if_pos (Or.inl c)])
    · refine sX12_in ?_
      have c : ¬ (jI S 47 (base + 98 + 2 * k) = 23 ∧ y = 0) := by
        intro c; rw [z1 c] at q; simp only [jN_uI, jN_uJ, jN_uR, jK_uI, jK_uJ, jK_uR, jZ_uI, jZ_uJ, jZ_uR, jR_uI, jR_uJ, jr_uI, jr_uJ, jI_uJ, jI_uR, jJ_uI, jJ_uR, jI_uI_eq, jI_uI_ne, jJ_uJ_eq, jJ_uJ_ne, jSh_uI, jSh_uJ, jA_uI, jA_uJ, jA_uR, jI_uIf_eq, jI_uIf_ne, jJ_uIf, jR_uIf, jr_uIf, jZ_uIf, jSh_uIf, jA_uIf, ne_eq, not_false_eq_true, not_true_eq_false, reduceCtorEq, Nat.reduceEqDiff, forall_eq, true_and, and_true, true_implies, forall_const, implies_true, List.mem_cons, List.not_mem_nil, or_false, false_or, or_self, if_true, if_false, reduceIte, Nat.reduceAdd, Nat.reduceMul, Nat.reduceLT, false_implies, Decidable.not_not, bI_eq0, bI_eq1, upd_at, updL_at, Nat.succ_ne_zero, Int32.reduceToNatClampNeg] at q; exact absurd q (by decide)
      simp only [shA_45, shA_59, shZ_59, shR_45_2, shr_45_2, shR_45_3, shr_45_3, shR_45_4, shr_45_4, shR_45_5, shr_45_5, shR_45_7, shr_45_7, shR_45_16, shr_45_16, shR_45_18, shr_45_18, shR_45_19, shr_45_19, shR_45_21, shr_45_21, shR_45_22, shr_45_22, shR_45_25, shr_45_25, shR_45_26, shr_45_26, shR_45_28, shr_45_28, shR_45_29, shr_45_29, shR_45_33, shr_45_33, shR_45_34, shr_45_34, shR_45_35, shr_45_35, shR_45_36, shr_45_36, shR_45_37, shr_45_37, shR_45_38, shr_45_38, shR_45_39, shr_45_39, shR_45_40, shr_45_40, shR_45_42, shr_45_42, hs2, jN_uI, jN_uJ, jN_uR, jK_uI, jK_uJ, jK_uR, jZ_uI, jZ_uJ, jZ_uR, jR_uI, jR_uJ, jr_uI, jr_uJ, jI_uJ, jI_uR, jJ_uI, jJ_uR, jI_uI_eq, jI_uI_ne, jJ_uJ_eq, jJ_uJ_ne, jSh_uI, jSh_uJ, jA_uI, jA_uJ, jA_uR, jI_uIf_eq, jI_uIf_ne, jJ_uIf, jR_uIf, jr_uIf, jZ_uIf, jSh_uIf, jA_uIf, ne_eq, not_false_eq_true, not_true_eq_false, reduceCtorEq, Nat.reduceEqDiff, forall_eq, true_and, and_true, true_implies, forall_const, implies_true, List.mem_cons, List.not_mem_nil, or_false, false_or, or_self, if_true, if_false, reduceIte, Nat.reduceAdd, Nat.reduceMul, Nat.reduceLT, false_implies, Decidable.not_not, bI_eq0, bI_eq1, upd_at, updL_at, Nat.succ_ne_zero, Int32.reduceToNatClampNeg]
      refine ⟨fun q3 => ⟨Or.inl rfl, ?_⟩, fun q3 => ⟨Or.inr rfl, brk2 (by unfold rkOp; rw [if_pos (Or.inr q3)])⟩⟩
      refine hp _ (by unfold rkOp; rw [if_neg]; rintro (z | z); exact c z; exact z q3) (by omega) (by omega) _ ((f3 _ _).uI (by decide)) ((k2.oJ (by decide)).sI (by decide)) (by simp only [jN_uI, jN_uJ, jN_uR, jK_uI, jK_uJ, jK_uR, jZ_uI, jZ_uJ, jZ_uR, jR_uI, jR_uJ, jr_uI, jr_uJ, jI_uJ, jI_uR, jJ_uI, jJ_uR, jI_uI_eq, jI_uI_ne, jJ_uJ_eq, jJ_uJ_ne, jSh_uI, jSh_uJ, jA_uI, jA_uJ, jA_uR, jI_uIf_eq, jI_uIf_ne, jJ_uIf, jR_uIf, jr_uIf, jZ_uIf, jSh_uIf, jA_uIf, ne_eq, not_false_eq_true, not_true_eq_false, reduceCtorEq, Nat.reduceEqDiff, forall_eq, true_and, and_true, true_implies, forall_const, implies_true, List.mem_cons, List.not_mem_nil, or_false, false_or, or_self, if_true, if_false, reduceIte, Nat.reduceAdd, Nat.reduceMul, Nat.reduceLT, false_implies, Decidable.not_not, bI_eq0, bI_eq1, upd_at, updL_at, Nat.succ_ne_zero, Int32.reduceToNatClampNeg]) ⟨by simp only [jN_uI, jN_uJ, jN_uR, jK_uI, jK_uJ, jK_uR, jZ_uI, jZ_uJ, jZ_uR, jR_uI, jR_uJ, jr_uI, jr_uJ, jI_uJ, jI_uR, jJ_uI, jJ_uR, jI_uI_eq, jI_uI_ne, jJ_uJ_eq, jJ_uJ_ne, jSh_uI, jSh_uJ, jA_uI, jA_uJ, jA_uR, jI_uIf_eq, jI_uIf_ne, jJ_uIf, jR_uIf, jr_uIf, jZ_uIf, jSh_uIf, jA_uIf, ne_eq, not_false_eq_true, not_true_eq_false, reduceCtorEq, Nat.reduceEqDiff, forall_eq, true_and, and_true, true_implies, forall_const, implies_true, List.mem_cons, List.not_mem_nil, or_false, false_or, or_self, if_true, if_false, reduceIte, Nat.reduceAdd, Nat.reduceMul, Nat.reduceLT, false_implies, Decidable.not_not, bI_eq0, bI_eq1, upd_at, updL_at, Nat.succ_ne_zero, Int32.reduceToNatClampNeg], ?_⟩
      simp only [jN_uI, jN_uJ, jN_uR, jK_uI, jK_uJ, jK_uR, jZ_uI, jZ_uJ, jZ_uR, jR_uI, jR_uJ, jr_uI, jr_uJ, jI_uJ, jI_uR, jJ_uI, jJ_uR, jI_uI_eq, jI_uI_ne, jJ_uJ_eq, jJ_uJ_ne, jSh_uI, jSh_uJ, jA_uI, jA_uJ, jA_uR, jI_uIf_eq, jI_uIf_ne, jJ_uIf, jR_uIf, jr_uIf, jZ_uIf, jSh_uIf, jA_uIf, j2]; exact stk_upd s1.2.2 (Nat.le_refl _)
  · intro k x st hk ho hp _ hn S1 f1 k1 b1 s1
    have hs1 : jSh S1 := f1.sh.mpr hs
    refine body _ _ _ ?_
    unfold bX12_reckonAll_7 wX12_reckonAll_55
    rw [nI_le' (by omega) (by omega)]
    simp only [shA_45, shA_47, shZ_47, shA_58, shZ_58, shA_59, shZ_59, shR_45_2, shr_45_2, shR_45_3, shr_45_3, shR_45_4, shr_45_4, shR_45_5, shr_45_5, shR_45_7, shr_45_7, shR_45_16, shr_45_16, shR_45_18, shr_45_18, shR_45_19, shr_45_19, shR_45_21, shr_45_21, shR_45_22, shr_45_22, shR_45_25, shr_45_25, shR_45_26, shr_45_26, shR_45_28, shr_45_28, shR_45_29, shr_45_29, shR_45_33, shr_45_33, shR_45_34, shr_45_34, shR_45_35, shr_45_35, shR_45_36, shr_45_36, shR_45_37, shr_45_37, shR_45_38, shr_45_38, shR_45_39, shr_45_39, shR_45_40, shr_45_40, shR_45_42, shr_45_42, hs1, k1.I 27 (by decide), hl, ix1, b1, f1.I 47 (by decide), f1.J 58 (by decide), jN_uI, jN_uJ, jN_uR, jK_uI, jK_uJ, jK_uR, jZ_uI, jZ_uJ, jZ_uR, jR_uI, jR_uJ, jr_uI, jr_uJ, jI_uJ, jI_uR, jJ_uI, jJ_uR, jI_uI_eq, jI_uI_ne, jJ_uJ_eq, jJ_uJ_ne, jSh_uI, jSh_uJ, jA_uI, jA_uJ, jA_uR, jI_uIf_eq, jI_uIf_ne, jJ_uIf, jR_uIf, jr_uIf, jZ_uIf, jSh_uIf, jA_uIf, ne_eq, not_false_eq_true, not_true_eq_false, reduceCtorEq, Nat.reduceEqDiff, forall_eq, true_and, and_true, true_implies, forall_const, implies_true, List.mem_cons, List.not_mem_nil, or_false, false_or, or_self, if_true, if_false, reduceIte, Nat.reduceAdd, Nat.reduceMul, Nat.reduceLT, false_implies, Decidable.not_not, bI_eq0, bI_eq1, upd_at, updL_at, Nat.succ_ne_zero, Int32.reduceToNatClampNeg]
    refine ⟨fun q => absurd q (by omega), fun _ => ⟨nI_in2 (by omega) (by omega), ?_⟩⟩
    rw [nI_tn (by omega), nI_1, nI_tn (by omega)]
    refine ⟨nI_in2 (by omega) (by omega), ?_⟩
    simp only [List.length_cons] at ho hp hn ⊢
    refine ⟨fun _ => ⟨fun _ => ⟨fun q => absurd ho q, fun _ => ?_⟩, fun q => absurd q (by lia)⟩, fun q => absurd q (by lia)⟩
    rw [nI_m1 (by omega), show st.length + 1 - 1 = st.length by omega]
    refine ⟨nI_in2 (by omega) (by omega), ?_⟩
    unfold wX12_reckonAll_136
    rw [nI_tn (by omega), nI_1, show jJ S1 59 st.length = x from s1.1]
    exact hp (by omega) (by omega) _ (f1.uJ (by decide)) (k1.oJ (by decide)) b1 ⟨by simp only [jN_uI, jN_uJ, jN_uR, jK_uI, jK_uJ, jK_uR, jZ_uI, jZ_uJ, jZ_uR, jR_uI, jR_uJ, jr_uI, jr_uJ, jI_uJ, jI_uR, jJ_uI, jJ_uR, jI_uI_eq, jI_uI_ne, jJ_uJ_eq, jJ_uJ_ne, jSh_uI, jSh_uJ, jA_uI, jA_uJ, jA_uR, jI_uIf_eq, jI_uIf_ne, jJ_uIf, jR_uIf, jr_uIf, jZ_uIf, jSh_uIf, jA_uIf, ne_eq, not_false_eq_true, not_true_eq_false, reduceCtorEq, Nat.reduceEqDiff, forall_eq, true_and, and_true, true_implies, forall_const, implies_true, List.mem_cons, List.not_mem_nil, or_false, false_or, or_self, if_true, if_false, reduceIte, Nat.reduceAdd, Nat.reduceMul, Nat.reduceLT, false_implies, Decidable.not_not, bI_eq0, bI_eq1, upd_at, updL_at, Nat.succ_ne_zero, Int32.reduceToNatClampNeg], by rw [jJ_uJ_eq]; exact stk_upd s1.2 (Nat.le_refl _)⟩
  · intro k x j st hk ho hj h1 h2 hp hq _ hn S1 f1 k1 b1 s1
    have hs1 : jSh S1 := f1.sh.mpr hs
    refine body _ _ _ ?_
    unfold bX12_reckonAll_7 wX12_reckonAll_55
    rw [nI_le' (by omega) (by omega)]
    simp only [shA_45, shA_47, shZ_47, shA_58, shZ_58, shA_59, shZ_59, shR_45_2, shr_45_2, shR_45_3, shr_45_3, shR_45_4, shr_45_4, shR_45_5, shr_45_5, shR_45_7, shr_45_7, shR_45_16, shr_45_16, shR_45_18, shr_45_18, shR_45_19, shr_45_19, shR_45_21, shr_45_21, shR_45_22, shr_45_22, shR_45_25, shr_45_25, shR_45_26, shr_45_26, shR_45_28, shr_45_28, shR_45_29, shr_45_29, shR_45_33, shr_45_33, shR_45_34, shr_45_34, shR_45_35, shr_45_35, shR_45_36, shr_45_36, shR_45_37, shr_45_37, shR_45_38, shr_45_38, shR_45_39, shr_45_39, shR_45_40, shr_45_40, shR_45_42, shr_45_42, hs1, k1.I 27 (by decide), hl, ix1, b1, f1.I 47 (by decide), f1.J 58 (by decide), jN_uI, jN_uJ, jN_uR, jK_uI, jK_uJ, jK_uR, jZ_uI, jZ_uJ, jZ_uR, jR_uI, jR_uJ, jr_uI, jr_uJ, jI_uJ, jI_uR, jJ_uI, jJ_uR, jI_uI_eq, jI_uI_ne, jJ_uJ_eq, jJ_uJ_ne, jSh_uI, jSh_uJ, jA_uI, jA_uJ, jA_uR, jI_uIf_eq, jI_uIf_ne, jJ_uIf, jR_uIf, jr_uIf, jZ_uIf, jSh_uIf, jA_uIf, ne_eq, not_false_eq_true, not_true_eq_false, reduceCtorEq, Nat.reduceEqDiff, forall_eq, true_and, and_true, true_implies, forall_const, implies_true, List.mem_cons, List.not_mem_nil, or_false, false_or, or_self, if_true, if_false, reduceIte, Nat.reduceAdd, Nat.reduceMul, Nat.reduceLT, false_implies, Decidable.not_not, bI_eq0, bI_eq1, upd_at, updL_at, Nat.succ_ne_zero, Int32.reduceToNatClampNeg]
    refine ⟨fun q => absurd q (by omega), fun _ => ⟨nI_in2 (by omega) (by omega), ?_⟩⟩
    rw [nI_tn (by omega), nI_1, nI_tn (by omega)]
    refine ⟨nI_in2 (by omega) (by omega), ?_⟩
    simp only [List.length_cons] at ho hj hp hq hn ⊢
    refine ⟨fun _ => ⟨fun _ => ⟨fun _ => ?_, fun q => absurd q (by lia)⟩, fun q => absurd q (by lia)⟩, fun q => absurd q (by lia)⟩
    rw [nI_m1 (by omega), show st.length + 1 - 1 = st.length by omega]
    refine ⟨nI_in2 (by omega) (by omega), fun q => absurd ho q, fun _ => ?_⟩
    unfold wX12_reckonAll_130 wX12_reckonAll_136
    rw [nI_tn (by omega), nI_1, show jJ S1 59 st.length = x from s1.1, lg_cmp_eq, hj]
    simp only [ne_eq, not_false_eq_true, not_true_eq_false, reduceCtorEq, Nat.reduceEqDiff, forall_eq, true_and, and_true, true_implies, forall_const, implies_true, List.mem_cons, List.not_mem_nil, or_false, false_or, or_self, if_true, if_false, reduceIte, Nat.reduceAdd, Nat.reduceMul, Nat.reduceLT, false_implies, Decidable.not_not, bI_eq0, bI_eq1, upd_at, updL_at, Nat.succ_ne_zero, Int32.reduceToNatClampNeg]
    rw [nI_p1 (by omega), show st.length + 1 - 1 = st.length by omega]
    exact ⟨fun e => hq e (by omega) (by omega) _ f1 k1 b1 s1.2, fun e => hp e (by omega) (by omega) _ f1 k1 b1 s1⟩
  · intro k x j st hk ho hj h1 h2 hp hq _ hn S1 f1 k1 b1 s1
    have hs1 : jSh S1 := f1.sh.mpr hs
    refine body _ _ _ ?_
    unfold bX12_reckonAll_7 wX12_reckonAll_55
    rw [nI_le' (by omega) (by omega)]
    simp only [shA_45, shA_47, shZ_47, shA_58, shZ_58, shA_59, shZ_59, shR_45_2, shr_45_2, shR_45_3, shr_45_3, shR_45_4, shr_45_4, shR_45_5, shr_45_5, shR_45_7, shr_45_7, shR_45_16, shr_45_16, shR_45_18, shr_45_18, shR_45_19, shr_45_19, shR_45_21, shr_45_21, shR_45_22, shr_45_22, shR_45_25, shr_45_25, shR_45_26, shr_45_26, shR_45_28, shr_45_28, shR_45_29, shr_45_29, shR_45_33, shr_45_33, shR_45_34, shr_45_34, shR_45_35, shr_45_35, shR_45_36, shr_45_36, shR_45_37, shr_45_37, shR_45_38, shr_45_38, shR_45_39, shr_45_39, shR_45_40, shr_45_40, shR_45_42, shr_45_42, hs1, k1.I 27 (by decide), hl, ix1, b1, f1.I 47 (by decide), f1.J 58 (by decide), jN_uI, jN_uJ, jN_uR, jK_uI, jK_uJ, jK_uR, jZ_uI, jZ_uJ, jZ_uR, jR_uI, jR_uJ, jr_uI, jr_uJ, jI_uJ, jI_uR, jJ_uI, jJ_uR, jI_uI_eq, jI_uI_ne, jJ_uJ_eq, jJ_uJ_ne, jSh_uI, jSh_uJ, jA_uI, jA_uJ, jA_uR, jI_uIf_eq, jI_uIf_ne, jJ_uIf, jR_uIf, jr_uIf, jZ_uIf, jSh_uIf, jA_uIf, ne_eq, not_false_eq_true, not_true_eq_false, reduceCtorEq, Nat.reduceEqDiff, forall_eq, true_and, and_true, true_implies, forall_const, implies_true, List.mem_cons, List.not_mem_nil, or_false, false_or, or_self, if_true, if_false, reduceIte, Nat.reduceAdd, Nat.reduceMul, Nat.reduceLT, false_implies, Decidable.not_not, bI_eq0, bI_eq1, upd_at, updL_at, Nat.succ_ne_zero, Int32.reduceToNatClampNeg]
    refine ⟨fun q => absurd q (by omega), fun _ => ⟨nI_in2 (by omega) (by omega), ?_⟩⟩
    rw [nI_tn (by omega), nI_1, nI_tn (by omega)]
    refine ⟨nI_in2 (by omega) (by omega), ?_⟩
    simp only [List.length_cons] at ho hj hp hq hn ⊢
    refine ⟨fun _ => ⟨fun _ => ⟨fun _ => ?_, fun q => absurd q (by lia)⟩, fun q => absurd q (by lia)⟩, fun q => absurd q (by lia)⟩
    rw [nI_m1 (by omega), show st.length + 1 - 1 = st.length by omega]
    refine ⟨nI_in2 (by omega) (by omega), fun _ => ?_, fun q => absurd q (by lia)⟩
    unfold wX12_reckonAll_130 wX12_reckonAll_136
    rw [nI_tn (by omega), nI_1, show jJ S1 59 st.length = x from s1.1, lg_cmp_eq, hj]
    simp only [ne_eq, not_false_eq_true, not_true_eq_false, reduceCtorEq, Nat.reduceEqDiff, forall_eq, true_and, and_true, true_implies, forall_const, implies_true, List.mem_cons, List.not_mem_nil, or_false, false_or, or_self, if_true, if_false, reduceIte, Nat.reduceAdd, Nat.reduceMul, Nat.reduceLT, false_implies, Decidable.not_not, bI_eq0, bI_eq1, upd_at, updL_at, Nat.succ_ne_zero, Int32.reduceToNatClampNeg]
    rw [nI_p1 (by omega), show st.length + 1 - 1 = st.length by omega]
    exact ⟨fun e => hq e (by omega) (by omega) _ f1 k1 b1 s1.2, fun e => hp e (by omega) (by omega) _ f1 k1 b1 s1⟩
  · intro v ev _ _ S1 f1 k1 b1 s1
    have hs1 : jSh S1 := f1.sh.mpr hs
    refine body _ _ _ ?_
    unfold bX12_reckonAll_7 wX12_reckonAll_137
    rw [nI_le' (by omega) (by omega)]
    simp only [shA_45, shA_59, shZ_59, shR_45_2, shr_45_2, shR_45_3, shr_45_3, shR_45_4, shr_45_4, shR_45_5, shr_45_5, shR_45_7, shr_45_7, shR_45_16, shr_45_16, shR_45_18, shr_45_18, shR_45_19, shr_45_19, shR_45_21, shr_45_21, shR_45_22, shr_45_22, shR_45_25, shr_45_25, shR_45_26, shr_45_26, shR_45_28, shr_45_28, shR_45_29, shr_45_29, shR_45_33, shr_45_33, shR_45_34, shr_45_34, shR_45_35, shr_45_35, shR_45_36, shr_45_36, shR_45_37, shr_45_37, shR_45_38, shr_45_38, shR_45_39, shr_45_39, shR_45_40, shr_45_40, shR_45_42, shr_45_42, hs1, jN_uI, jN_uJ, jN_uR, jK_uI, jK_uJ, jK_uR, jZ_uI, jZ_uJ, jZ_uR, jR_uI, jR_uJ, jr_uI, jr_uJ, jI_uJ, jI_uR, jJ_uI, jJ_uR, jI_uI_eq, jI_uI_ne, jJ_uJ_eq, jJ_uJ_ne, jSh_uI, jSh_uJ, jA_uI, jA_uJ, jA_uR, jI_uIf_eq, jI_uIf_ne, jJ_uIf, jR_uIf, jr_uIf, jZ_uIf, jSh_uIf, jA_uIf, ne_eq, not_false_eq_true, not_true_eq_false, reduceCtorEq, Nat.reduceEqDiff, forall_eq, true_and, and_true, true_implies, forall_const, implies_true, List.mem_cons, List.not_mem_nil, or_false, false_or, or_self, if_true, if_false, reduceIte, Nat.reduceAdd, Nat.reduceMul, Nat.reduceLT, false_implies, Decidable.not_not, bI_eq0, bI_eq1, upd_at, updL_at, Nat.succ_ne_zero, Int32.reduceToNatClampNeg]
    refine ⟨fun _ => ⟨fun q => absurd q (show ¬ nI 1 ≤ 0 by decide), fun _ => ⟨nI_in2 (n := 0) (by omega) (by omega), ?_⟩⟩, fun q => absurd (Nat.le_refl _) q⟩
    refine h _ (f1.uJ (by decide)) (k1.sJ (by decide)) (fun w hw => ⟨b1, ?_⟩) (fun e => by rw [e] at ev; cases ev)
    simp only [jN_uI, jN_uJ, jN_uR, jK_uI, jK_uJ, jK_uR, jZ_uI, jZ_uJ, jZ_uR, jR_uI, jR_uJ, jr_uI, jr_uJ, jI_uJ, jI_uR, jJ_uI, jJ_uR, jI_uI_eq, jI_uI_ne, jJ_uJ_eq, jJ_uJ_ne, jSh_uI, jSh_uJ, jA_uI, jA_uJ, jA_uR, jI_uIf_eq, jI_uIf_ne, jJ_uIf, jR_uIf, jr_uIf, jZ_uIf, jSh_uIf, jA_uIf, ne_eq, not_false_eq_true, not_true_eq_false, reduceCtorEq, Nat.reduceEqDiff, forall_eq, true_and, and_true, true_implies, forall_const, implies_true, List.mem_cons, List.not_mem_nil, or_false, false_or, or_self, if_true, if_false, reduceIte, Nat.reduceAdd, Nat.reduceMul, Nat.reduceLT, false_implies, Decidable.not_not, bI_eq0, bI_eq1, upd_at, updL_at, Nat.succ_ne_zero, Int32.reduceToNatClampNeg]
    rw [ev] at hw; cases hw; exact s1.1
