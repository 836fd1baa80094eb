/-! THE CLASS'S RECKONING -/
theorem sX0_push {S : JS} {n : Nat} {v : Int64} {Q : JS → Prop} (hs : jSh S) (ht : jI S 24 2 = nI n) (hn : n < 32) (h : Q (uI (uJ S 26 n v) 24 2 (nI (n + 1)))) : wX0_push 24 v S Q := by
  unfold wX0_push
  simp only [shA_24, shA_26, shZ_26, shR_24_0, shr_24_0, shR_24_1, shr_24_1, hs, ht, jN_uI, jN_uJ, jN_uR, jK_uI, jK_uJ, jK_uR, jZ_uI, jZ_uJ, jZ_uR, jR_uI, jR_uJ, jr_uI, jr_uJ, jI_uJ, jI_uR, jJ_uI, jJ_uR, jI_uI_eq, jI_uI_ne, jJ_uJ_eq, jJ_uJ_ne, jSh_uI, jSh_uJ, jA_uI, jA_uJ, jA_uR, jI_uIf_eq, jI_uIf_ne, jJ_uIf, jR_uIf, jr_uIf, jZ_uIf, jSh_uIf, jA_uIf, ne_eq, not_false_eq_true, not_true_eq_false, reduceCtorEq, Nat.reduceEqDiff, forall_eq, true_and, and_true, true_implies, forall_const, implies_true, List.mem_cons, List.not_mem_nil, or_false, false_or, or_self, if_true, if_false, reduceIte, Nat.reduceAdd, Nat.reduceMul, Nat.reduceLT, false_implies, Decidable.not_not, bI_eq0, bI_eq1, upd_at, updL_at, Nat.succ_ne_zero, Int32.reduceToNatClampNeg]
  rw [nI_tn (by omega), nI_1]
  refine ⟨fun q => ?_, fun _ => ⟨nI_in2 (by omega) (by omega), h⟩⟩
  exact absurd ((nI_le' (a := 32) (b := n) (by omega) (by omega)).mp q) (by omega)
theorem lt64 {a b : Int64} : (¬ b ≤ a) ↔ a < b := by lia
theorem sX0_combine {S : JS} {n : Nat} {o : Int32} {Q : Int32 → JS → Prop} (hs : jSh S) (ht : jI S 24 2 = nI (n + 3)) (hn : n < 30) (h1 : 7 ≤ o) (h2 : o ≤ 13) (hN : rkOp (o + 13) (jJ S 26 (n + 1)) (jJ S 26 (n + 2)) = none → ∀ S', jFr [24, 26] S S' → Q 0 S') (hV : ∀ v, rkOp (o + 13) (jJ S 26 (n + 1)) (jJ S 26 (n + 2)) = some v → Q 1 (uJ (uI S 24 2 (nI (n + 2))) 26 (n + 1) v)) : wX0_combine 24 o S Q := by
  have fin : ∀ v, ¬ (o + 13 = 23 ∧ jJ S 26 (n + 2) = 0) → rkF (o + 13) (jJ S 26 (n + 1)) (jJ S 26 (n + 2)) = v → wX0_combine_89 24 v (uI S 24 2 (nI (n + 2))) Q := by
    intro v hz hv
    unfold wX0_combine_89
    simp only [shA_24, shA_26, shZ_26, shR_24_0, shr_24_0, shR_24_1, shr_24_1, hs, jN_uI, jN_uJ, jN_uR, jK_uI, jK_uJ, jK_uR, jZ_uI, jZ_uJ, jZ_uR, jR_uI, jR_uJ, jr_uI, jr_uJ, jI_uJ, jI_uR, jJ_uI, jJ_uR, jI_uI_eq, jI_uI_ne, jJ_uJ_eq, jJ_uJ_ne, jSh_uI, jSh_uJ, jA_uI, jA_uJ, jA_uR, jI_uIf_eq, jI_uIf_ne, jJ_uIf, jR_uIf, jr_uIf, jZ_uIf, jSh_uIf, jA_uIf, ne_eq, not_false_eq_true, not_true_eq_false, reduceCtorEq, Nat.reduceEqDiff, forall_eq, true_and, and_true, true_implies, forall_const, implies_true, List.mem_cons, List.not_mem_nil, or_false, false_or, or_self, if_true, if_false, reduceIte, Nat.reduceAdd, Nat.reduceMul, Nat.reduceLT, false_implies, Decidable.not_not, bI_eq0, bI_eq1, upd_at, updL_at, Nat.succ_ne_zero, Int32.reduceToNatClampNeg, lg_cmp_gt, lg_cmp_lt]
    rw [nI_m1 (by omega), nI_tn (by omega), show n + 2 - 1 = n + 1 by omega]
    refine ⟨nI_in2 (by omega) (by omega), fun q => hN ?_ _ (((jFr.refl _ _).uI (by decide)).uJ (by decide)), fun q => ⟨fun q2 => hN ?_ _ (((jFr.refl _ _).uI (by decide)).uJ (by decide)), fun q2 => hV v ?_⟩⟩
    · unfold rkOp; rw [hv, if_pos (Or.inr (by lia))]
    · unfold rkOp; rw [hv, if_pos (Or.inr (by lia))]
    · unfold rkOp; rw [hv, if_neg]; rintro (z | z); exact hz z; exact z (by lia)
  have mid : ¬ (o + 13 = 23 ∧ jJ S 26 (n + 2) = 0) → wX0_combine_35 24 o (jJ S 26 (n + 1)) (jJ S 26 (n + 2)) (uI S 24 2 (nI (n + 2))) Q := by
    intro hz
    have fin := fun v => fin v hz
    unfold wX0_combine_35 wX0_combine_61 wX0_combine_70 wX0_combine_79 wX0_combine_88
    simp only [lg_cmp_eq, lg_cmp_ge, lg_cmp_le, ne_eq, not_false_eq_true, not_true_eq_false, reduceCtorEq, Nat.reduceEqDiff, forall_eq, true_and, and_true, true_implies, forall_const, implies_true, List.mem_cons, List.not_mem_nil, or_false, false_or, or_self, if_true, if_false, reduceIte, Nat.reduceAdd, Nat.reduceMul, Nat.reduceLT, false_implies, Decidable.not_not, bI_eq0, bI_eq1, upd_at, updL_at, Nat.succ_ne_zero, Int32.reduceToNatClampNeg]
    unfold rkF at fin
    refine ⟨fun q => fin _ ?_, fun n0 => ⟨fun q => fin _ ?_, fun n1 => ⟨fun q => fin _ ?_, fun n2 => ⟨fun q => ⟨fun q2 => ⟨q2, fin _ ?_⟩, fun q2 => absurd ⟨by lia, q2⟩ hz⟩, fun n3 => ⟨fun q => ⟨fun q2 => fin _ ?_, fun q2 => fin _ ?_⟩, fun n4 => ⟨fun q => ⟨fun q2 => fin _ ?_, fun q2 => fin _ ?_⟩, fun n5 => ⟨fun q2 => fin _ ?_, fun q2 => fin _ ?_⟩⟩⟩⟩⟩⟩⟩
    · rw [if_pos (by lia)]
    · rw [if_neg (by lia), if_pos (by lia)]
    · rw [if_neg (by lia), if_neg (by lia), if_pos (by lia)]
    · rw [if_neg (by lia), if_neg (by lia), if_neg (by lia), if_pos (by lia), if_neg q2]
    · rw [if_neg (by lia), if_neg (by lia), if_neg (by lia), if_neg (by lia), if_pos (by lia), if_neg (by lia)]
    · rw [if_neg (by lia), if_neg (by lia), if_neg (by lia), if_neg (by lia), if_pos (by lia), if_pos (by lia)]
    · rw [if_neg (by lia), if_neg (by lia), if_neg (by lia), if_neg (by lia), if_neg (by lia), if_pos (by lia), if_neg (by lia)]
    · rw [if_neg (by lia), if_neg (by lia), if_neg (by lia), if_neg (by lia), if_neg (by lia), if_pos (by lia), if_pos (by lia)]
    · rw [if_neg (by lia), if_neg (by lia), if_neg (by lia), if_neg (by lia), if_neg (by lia), if_neg (by lia), if_neg q2]
    · rw [if_neg (by lia), if_neg (by lia), if_neg (by lia), if_neg (by lia), if_neg (by lia), if_neg (by lia), if_pos q2]
  unfold wX0_combine
  simp only [shA_24, shA_26, shZ_26, shR_24_0, shr_24_0, shR_24_1, shr_24_1, hs, ht, jN_uI, jN_uJ, jN_uR, jK_uI, jK_uJ, jK_uR, jZ_uI, jZ_uJ, jZ_uR, jR_uI, jR_uJ, jr_uI, jr_uJ, jI_uJ, jI_uR, jJ_uI, jJ_uR, jI_uI_eq, jI_uI_ne, jJ_uJ_eq, jJ_uJ_ne, jSh_uI, jSh_uJ, jA_uI, jA_uJ, jA_uR, jI_uIf_eq, jI_uIf_ne, jJ_uIf, jR_uIf, jr_uIf, jZ_uIf, jSh_uIf, jA_uIf, ne_eq, not_false_eq_true, not_true_eq_false, reduceCtorEq, Nat.reduceEqDiff, forall_eq, true_and, and_true, true_implies, forall_const, implies_true, List.mem_cons, List.not_mem_nil, or_false, false_or, or_self, if_true, if_false, reduceIte, Nat.reduceAdd, Nat.reduceMul, Nat.reduceLT, false_implies, Decidable.not_not, bI_eq0, bI_eq1, upd_at, updL_at, Nat.succ_ne_zero, Int32.reduceToNatClampNeg, lg_cmp_eq]
  rw [nI_m1 (by omega), show n + 3 - 1 = n + 2 by omega, nI_m1 (by omega), show n + 2 - 1 = n + 1 by omega, nI_tn (by omega), nI_tn (by omega)]
  refine ⟨fun _ => ⟨nI_in2 (by omega) (by omega), nI_in2 (by omega) (by omega), fun q => mid (by lia), fun q => ⟨fun q2 => mid (fun z => q2 z.2), fun q2 => hN ?_ _ ((jFr.refl _ _).uI (by decide))⟩⟩, fun q => ?_⟩
  · unfold rkOp; rw [if_pos (Or.inl ⟨by lia, q2⟩)]
  · exact absurd ((nI_le' (a := 2) (b := n + 3) (by omega) (by omega)).mpr (by omega)) q
theorem stk_upd1 {J : Nat → Int64} {i : Nat} {v : Int64} : ∀ {st : List Int64}, stk (fun k => J (k + 1)) st → st.length ≤ i → stk (fun k => vp_updL J (i + 1) v (k + 1)) st
  | [], _, _ => trivial
  | x :: st, h, hi => ⟨by simp only [updL_at]; rw [if_neg (by simp only [List.length_cons] at hi; omega)]; exact h.1, stk_upd1 h.2 (by simp only [List.length_cons] at hi; omega)⟩
theorem sX0_work {S : JS} {Q : Int64 → JS → Prop} {hc a b cs : Nat} {f : JF} {env : Nat → Int64} (hs : jSh S) (hA : jA S hc 13) (hz : jZ S hc = cs) (hcs : cs ≤ 400) (h69 : 69 ≤ hc) (hb : b ≤ cs) (hD : cD (jI S hc) 20 a b f) (he : ∀ k, 0 < k → k < 7 → (jI S 25 k).toInt64 = env k) (hv : ∀ v, f env = some v → ∀ S', jFr [24, 26] S S' → Q v S') (hn : f env = none → ∀ S', jFr [24, 26] S S' → Q 1000000001 S') : wX0_work 24 hc (nI a) (nI b) S Q := by
  have hq1 := hD.1
  have hne : hc ∉ [24, 26] := by simp only [List.mem_cons, List.not_mem_nil, or_false]; omega
  unfold wX0_work
  simp only [shA_24, shA_26, shZ_26, shR_24_0, shr_24_0, shR_24_1, shr_24_1, hs, jN_uI, jN_uJ, jN_uR, jK_uI, jK_uJ, jK_uR, jZ_uI, jZ_uJ, jZ_uR, jR_uI, jR_uJ, jr_uI, jr_uJ, jI_uJ, jI_uR, jJ_uI, jJ_uR, jI_uI_eq, jI_uI_ne, jJ_uJ_eq, jJ_uJ_ne, jSh_uI, jSh_uJ, jA_uI, jA_uJ, jA_uR, jI_uIf_eq, jI_uIf_ne, jJ_uIf, jR_uIf, jr_uIf, jZ_uIf, jSh_uIf, jA_uIf, ne_eq, not_false_eq_true, not_true_eq_false, reduceCtorEq, Nat.reduceEqDiff, forall_eq, true_and, and_true, true_implies, forall_const, implies_true, List.mem_cons, List.not_mem_nil, or_false, false_or, or_self, if_true, if_false, reduceIte, Nat.reduceAdd, Nat.reduceMul, Nat.reduceLT, false_implies, Decidable.not_not, bI_eq0, bI_eq1, upd_at, updL_at, Nat.succ_ne_zero, Int32.reduceToNatClampNeg]
  refine ⟨nI_in2 (n := 0) (by omega) (by omega), ?_⟩
  have ea : (if 0 < nI a then nI a else 0) = nI a := by
    split
    · rfl
    · rename_i q; have := nI_nn (n := a) (by omega); lia
  rw [ea]
  generalize e0 : uJ (uI S 24 2 1) 26 0 1 = S0
  have f0 : jFr [24, 26] S S0 := e0 ▸ ((jFr.refl _ _).uI (by decide)).uJ (by decide)
  have t0 : jI S0 24 2 = nI 1 := by rw [← e0]; simp only [jN_uI, jN_uJ, jN_uR, jK_uI, jK_uJ, jK_uR, jZ_uI, jZ_uJ, jZ_uR, jR_uI, jR_uJ, jr_uI, jr_uJ, jI_uJ, jI_uR, jJ_uI, jJ_uR, jI_uI_eq, jI_uI_ne, jJ_uJ_eq, jJ_uJ_ne, jSh_uI, jSh_uJ, jA_uI, jA_uJ, jA_uR, jI_uIf_eq, jI_uIf_ne, jJ_uIf, jR_uIf, jr_uIf, jZ_uIf, jSh_uIf, jA_uIf, ne_eq, not_false_eq_true, not_true_eq_false, reduceCtorEq, Nat.reduceEqDiff, forall_eq, true_and, and_true, true_implies, forall_const, implies_true, List.mem_cons, List.not_mem_nil, or_false, false_or, or_self, if_true, if_false, reduceIte, Nat.reduceAdd, Nat.reduceMul, Nat.reduceLT, false_implies, Decidable.not_not, bI_eq0, bI_eq1, upd_at, updL_at, Nat.succ_ne_zero, Int32.reduceToNatClampNeg]; rfl
  unfold wX0_work_12
  generalize hF : (fun (X12 : Nat × Nat × Int32 × Int32 × JS → Prop) (q : Nat × Nat × Int32 × Int32 × JS) => bX0_work_12 (fun l0 l1 l3 l4 S => X12 (l0, l1, l3, l4, S)) q.1 q.2.1 q.2.2.1 q.2.2.2.1 q.2.2.2.2 Q) = F
  have body : ∀ k S1, bX0_work_12 (fun l0 l1 l3 l4 S => jLoop F (l0, l1, l3, l4, S)) 24 hc (nI b) (nI k) S1 Q → jLoop F (24, hc, nI b, nI k, S1) := by
    intro k S1 hh; refine jLoop.roll ?_; rw [← hF]; rw [← hF] at hh; exact hh
  have key := hD.2 env b (f env = none) (fun k st => k ≤ b → ∀ S1, jFr [24, 26] S S1 → jI S1 24 2 = nI (st.length + 1) → st.length ≤ 31 → stk (fun i => jJ S1 26 (i + 1)) st → jLoop F (24, hc, nI b, nI k, S1)) [] (Nat.le_refl _) (by simp) ⟨?_, ?_, ?_, ?_, ?_, ?_⟩ id ?_
  · exact key (by omega) S0 f0 t0 (by simp) trivial
  · intro k st hk ho hl hp _ S1 f1 t1 l1 s1
    have hs1 : jSh S1 := f1.sh.mpr hs
    refine body _ _ ?_
    unfold bX0_work_12
    rw [nI_le' (by omega) (by omega), f1.Z, hz, show Int32.ofNat cs = nI cs from rfl, nI_le' (by omega) (by omega), nI_tn (by omega), f1.I hc hne]
    simp only [shA_24, shA_25, shZ_25, shA_26, shZ_26, shR_24_0, shr_24_0, shR_24_1, shr_24_1, hs, hs1, (f1.A hc 13).mpr hA, f1.I 25 (by decide), jN_uI, jN_uJ, jN_uR, jK_uI, jK_uJ, jK_uR, jZ_uI, jZ_uJ, jZ_uR, jR_uI, jR_uJ, jr_uI, jr_uJ, jI_uJ, jI_uR, jJ_uI, jJ_uR, jI_uI_eq, jI_uI_ne, jJ_uJ_eq, jJ_uJ_ne, jSh_uI, jSh_uJ, jA_uI, jA_uJ, jA_uR, jI_uIf_eq, jI_uIf_ne, jJ_uIf, jR_uIf, jr_uIf, jZ_uIf, jSh_uIf, jA_uIf, ne_eq, not_false_eq_true, not_true_eq_false, reduceCtorEq, Nat.reduceEqDiff, forall_eq, true_and, and_true, true_implies, forall_const, implies_true, List.mem_cons, List.not_mem_nil, or_false, false_or, or_self, if_true, if_false, reduceIte, Nat.reduceAdd, Nat.reduceMul, Nat.reduceLT, false_implies, Decidable.not_not, bI_eq0, bI_eq1, upd_at, updL_at, Nat.succ_ne_zero, Int32.reduceToNatClampNeg]
    refine ⟨fun q => absurd q (by omega), fun _ => ⟨fun q => absurd q (by omega), fun _ => ⟨nI_in2 (by omega) (by omega), ?_⟩⟩⟩
    rw [show jI S hc k &&& 31 = cSg (jI S hc k) from rfl, show jushr (jI S hc k) 5 = cWt (jI S hc k) from rfl]
    refine ⟨fun q => absurd q (by lia), fun _ => ⟨fun q => absurd ho q, fun _ => ?_⟩⟩
    unfold wX0_work_45 wX0_work_125
    refine ⟨shA_24 hs1, sX0_push hs1 t1 (by omega) ?_⟩
    intro x hx; rw [nI_1] at hx; subst hx
    refine hp (by omega) _ ((f1.uJ (by decide)).uI (by decide)) (by simp only [jN_uI, jN_uJ, jN_uR, jK_uI, jK_uJ, jK_uR, jZ_uI, jZ_uJ, jZ_uR, jR_uI, jR_uJ, jr_uI, jr_uJ, jI_uJ, jI_uR, jJ_uI, jJ_uR, jI_uI_eq, jI_uI_ne, jJ_uJ_eq, jJ_uJ_ne, jSh_uI, jSh_uJ, jA_uI, jA_uJ, jA_uR, jI_uIf_eq, jI_uIf_ne, jJ_uIf, jR_uIf, jr_uIf, jZ_uIf, jSh_uIf, jA_uIf, ne_eq, not_false_eq_true, not_true_eq_false, reduceCtorEq, Nat.reduceEqDiff, forall_eq, true_and, and_true, true_implies, forall_const, implies_true, List.mem_cons, List.not_mem_nil, or_false, false_or, or_self, if_true, if_false, reduceIte, Nat.reduceAdd, Nat.reduceMul, Nat.reduceLT, false_implies, Decidable.not_not, bI_eq0, bI_eq1, upd_at, updL_at, Nat.succ_ne_zero, Int32.reduceToNatClampNeg, List.length_cons]) (by simp only [List.length_cons]; omega) ⟨by simp only [jN_uI, jN_uJ, jN_uR, jK_uI, jK_uJ, jK_uR, jZ_uI, jZ_uJ, jZ_uR, jR_uI, jR_uJ, jr_uI, jr_uJ, jI_uJ, jI_uR, jJ_uI, jJ_uR, jI_uI_eq, jI_uI_ne, jJ_uJ_eq, jJ_uJ_ne, jSh_uI, jSh_uJ, jA_uI, jA_uJ, jA_uR, jI_uIf_eq, jI_uIf_ne, jJ_uIf, jR_uIf, jr_uIf, jZ_uIf, jSh_uIf, jA_uIf, ne_eq, not_false_eq_true, not_true_eq_false, reduceCtorEq, Nat.reduceEqDiff, forall_eq, true_and, and_true, true_implies, forall_const, implies_true, List.mem_cons, List.not_mem_nil, or_false, false_or, or_self, if_true, if_false, reduceIte, Nat.reduceAdd, Nat.reduceMul, Nat.reduceLT, false_implies, Decidable.not_not, bI_eq0, bI_eq1, upd_at, updL_at, Nat.succ_ne_zero, Int32.reduceToNatClampNeg], ?_⟩
    simp only [jN_uI, jN_uJ, jN_uR, jK_uI, jK_uJ, jK_uR, jZ_uI, jZ_uJ, jZ_uR, jR_uI, jR_uJ, jr_uI, jr_uJ, jI_uJ, jI_uR, jJ_uI, jJ_uR, jI_uI_eq, jI_uI_ne, jJ_uJ_eq, jJ_uJ_ne, jSh_uI, jSh_uJ, jA_uI, jA_uJ, jA_uR, jI_uIf_eq, jI_uIf_ne, jJ_uIf, jR_uIf, jr_uIf, jZ_uIf, jSh_uIf, jA_uIf]; exact stk_upd1 s1 (Nat.le_refl _)
  · intro k st hk ho ho2 hl hp _ S1 f1 t1 l1 s1
    have hs1 : jSh S1 := f1.sh.mpr hs
    refine body _ _ ?_
    unfold bX0_work_12
    rw [nI_le' (by omega) (by omega), f1.Z, hz, show Int32.ofNat cs = nI cs from rfl, nI_le' (by omega) (by omega), nI_tn (by omega), f1.I hc hne]
    simp only [shA_24, shA_25, shZ_25, shA_26, shZ_26, shR_24_0, shr_24_0, shR_24_1, shr_24_1, hs, hs1, (f1.A hc 13).mpr hA, f1.I 25 (by decide), jN_uI, jN_uJ, jN_uR, jK_uI, jK_uJ, jK_uR, jZ_uI, jZ_uJ, jZ_uR, jR_uI, jR_uJ, jr_uI, jr_uJ, jI_uJ, jI_uR, jJ_uI, jJ_uR, jI_uI_eq, jI_uI_ne, jJ_uJ_eq, jJ_uJ_ne, jSh_uI, jSh_uJ, jA_uI, jA_uJ, jA_uR, jI_uIf_eq, jI_uIf_ne, jJ_uIf, jR_uIf, jr_uIf, jZ_uIf, jSh_uIf, jA_uIf, ne_eq, not_false_eq_true, not_true_eq_false, reduceCtorEq, Nat.reduceEqDiff, forall_eq, true_and, and_true, true_implies, forall_const, implies_true, List.mem_cons, List.not_mem_nil, or_false, false_or, or_self, if_true, if_false, reduceIte, Nat.reduceAdd, Nat.reduceMul, Nat.reduceLT, false_implies, Decidable.not_not, bI_eq0, bI_eq1, upd_at, updL_at, Nat.succ_ne_zero, Int32.reduceToNatClampNeg]
    refine ⟨fun q => absurd q (by omega), fun _ => ⟨fun q => absurd q (by omega), fun _ => ⟨nI_in2 (by omega) (by omega), ?_⟩⟩⟩
    rw [show jI S hc k &&& 31 = cSg (jI S hc k) from rfl, show jushr (jI S hc k) 5 = cWt (jI S hc k) from rfl]
    refine ⟨fun q => absurd q (by lia), fun _ => ⟨fun _ => ⟨?_, ?_⟩, fun q => absurd q (by lia)⟩⟩
    · rw [vpin_7]; lia
    unfold wX0_work_45 wX0_work_125
    refine ⟨shA_24 hs1, sX0_push hs1 t1 (by omega) ?_⟩
    intro x hx; rw [nI_1] at hx; subst hx
    have e7 : (jI S 25 (cSg (jI S hc k)).toNatClampNeg).toInt64 = env (cSg (jI S hc k)).toNatClampNeg := he _ (by
      have h7 : (0 : Int32).toNatClampNeg < (cSg (jI S hc k)).toNatClampNeg := (tn_lt (by decide) (by lia)).mpr ho
      exact h7) (by
      have h7 : (cSg (jI S hc k)).toNatClampNeg < (7 : Int32).toNatClampNeg := (tn_lt (by lia) (by decide)).mpr (by lia)
      exact h7)
    rw [e7]
    refine hp (by omega) _ ((f1.uJ (by decide)).uI (by decide)) (by simp only [jN_uI, jN_uJ, jN_uR, jK_uI, jK_uJ, jK_uR, jZ_uI, jZ_uJ, jZ_uR, jR_uI, jR_uJ, jr_uI, jr_uJ, jI_uJ, jI_uR, jJ_uI, jJ_uR, jI_uI_eq, jI_uI_ne, jJ_uJ_eq, jJ_uJ_ne, jSh_uI, jSh_uJ, jA_uI, jA_uJ, jA_uR, jI_uIf_eq, jI_uIf_ne, jJ_uIf, jR_uIf, jr_uIf, jZ_uIf, jSh_uIf, jA_uIf, ne_eq, not_false_eq_true, not_true_eq_false, reduceCtorEq, Nat.reduceEqDiff, forall_eq, true_and, and_true, true_implies, forall_const, implies_true, List.mem_cons, List.not_mem_nil, or_false, false_or, or_self, if_true, if_false, reduceIte, Nat.reduceAdd, Nat.reduceMul, Nat.reduceLT, false_implies, Decidable.not_not, bI_eq0, bI_eq1, upd_at, updL_at, Nat.succ_ne_zero, Int32.reduceToNatClampNeg, List.length_cons]) (by simp only [List.length_cons]; omega) ⟨by simp only [jN_uI, jN_uJ, jN_uR, jK_uI, jK_uJ, jK_uR, jZ_uI, jZ_uJ, jZ_uR, jR_uI, jR_uJ, jr_uI, jr_uJ, jI_uJ, jI_uR, jJ_uI, jJ_uR, jI_uI_eq, jI_uI_ne, jJ_uJ_eq, jJ_uJ_ne, jSh_uI, jSh_uJ, jA_uI, jA_uJ, jA_uR, jI_uIf_eq, jI_uIf_ne, jJ_uIf, jR_uIf, jr_uIf, jZ_uIf, jSh_uIf, jA_uIf, ne_eq, not_false_eq_true, not_true_eq_false, reduceCtorEq, Nat.reduceEqDiff, forall_eq, true_and, and_true, true_implies, forall_const, implies_true, List.mem_cons, List.not_mem_nil, or_false, false_or, or_self, if_true, if_false, reduceIte, Nat.reduceAdd, Nat.reduceMul, Nat.reduceLT, false_implies, Decidable.not_not, bI_eq0, bI_eq1, upd_at, updL_at, Nat.succ_ne_zero, Int32.reduceToNatClampNeg], ?_⟩
    simp only [jN_uI, jN_uJ, jN_uR, jK_uI, jK_uJ, jK_uR, jZ_uI, jZ_uJ, jZ_uR, jR_uI, jR_uJ, jr_uI, jr_uJ, jI_uJ, jI_uR, jJ_uI, jJ_uR, jI_uI_eq, jI_uI_ne, jJ_uJ_eq, jJ_uJ_ne, jSh_uI, jSh_uJ, jA_uI, jA_uJ, jA_uR, jI_uIf_eq, jI_uIf_ne, jJ_uIf, jR_uIf, jr_uIf, jZ_uIf, jSh_uIf, jA_uIf]; exact stk_upd1 s1 (Nat.le_refl _)
  · intro k x y st hk ho ho2 hbd hp _ S1 f1 t1 l1 s1
    have hs1 : jSh S1 := f1.sh.mpr hs
    refine body _ _ ?_
    unfold bX0_work_12
    rw [nI_le' (by omega) (by omega), f1.Z, hz, show Int32.ofNat cs = nI cs from rfl, nI_le' (by omega) (by omega), nI_tn (by omega), f1.I hc hne]
    simp only [shA_24, shA_25, shZ_25, shA_26, shZ_26, shR_24_0, shr_24_0, shR_24_1, shr_24_1, hs, hs1, (f1.A hc 13).mpr hA, f1.I 25 (by decide), jN_uI, jN_uJ, jN_uR, jK_uI, jK_uJ, jK_uR, jZ_uI, jZ_uJ, jZ_uR, jR_uI, jR_uJ, jr_uI, jr_uJ, jI_uJ, jI_uR, jJ_uI, jJ_uR, jI_uI_eq, jI_uI_ne, jJ_uJ_eq, jJ_uJ_ne, jSh_uI, jSh_uJ, jA_uI, jA_uJ, jA_uR, jI_uIf_eq, jI_uIf_ne, jJ_uIf, jR_uIf, jr_uIf, jZ_uIf, jSh_uIf, jA_uIf, ne_eq, not_false_eq_true, not_true_eq_false, reduceCtorEq, Nat.reduceEqDiff, forall_eq, true_and, and_true, true_implies, forall_const, implies_true, List.mem_cons, List.not_mem_nil, or_false, false_or, or_self, if_true, if_false, reduceIte, Nat.reduceAdd, Nat.reduceMul, Nat.reduceLT, false_implies, Decidable.not_not, bI_eq0, bI_eq1, upd_at, updL_at, Nat.succ_ne_zero, Int32.reduceToNatClampNeg]
    refine ⟨fun q => absurd q (by omega), fun _ => ⟨fun q => absurd q (by omega), fun _ => ⟨nI_in2 (by omega) (by omega), ?_⟩⟩⟩
    rw [show jI S hc k &&& 31 = cSg (jI S hc k) from rfl, show jushr (jI S hc k) 5 = cWt (jI S hc k) from rfl]
    simp only [List.length_cons] at t1 l1
    refine ⟨fun _ => ⟨fun q => absurd q (by lia), fun _ => ⟨fun _ => ⟨fun _ => ?_, fun q => absurd q (by lia)⟩, fun q => absurd q (by lia)⟩⟩, fun q => absurd q (by lia)⟩
    refine sX0_combine (n := st.length) hs1 t1 (by omega) ho ho2 ?_ ?_
    · rw [show jJ S1 26 (st.length + 1) = x from s1.2.1, show jJ S1 26 (st.length + 2) = y from s1.1]
      intro e S2 f2
      exact ⟨fun q => absurd rfl q, fun _ => hn (hbd e) _ (f1.tr f2)⟩
    · rw [show jJ S1 26 (st.length + 1) = x from s1.2.1, show jJ S1 26 (st.length + 2) = y from s1.1]
      intro v e
      refine ⟨fun _ => ?_, fun q => absurd q (by decide)⟩
      unfold wX0_work_125
      intro z hz; rw [nI_1] at hz; subst hz
      refine hp v e (by omega) _ ((f1.uI (by decide)).uJ (by decide)) (by simp only [jN_uI, jN_uJ, jN_uR, jK_uI, jK_uJ, jK_uR, jZ_uI, jZ_uJ, jZ_uR, jR_uI, jR_uJ, jr_uI, jr_uJ, jI_uJ, jI_uR, jJ_uI, jJ_uR, jI_uI_eq, jI_uI_ne, jJ_uJ_eq, jJ_uJ_ne, jSh_uI, jSh_uJ, jA_uI, jA_uJ, jA_uR, jI_uIf_eq, jI_uIf_ne, jJ_uIf, jR_uIf, jr_uIf, jZ_uIf, jSh_uIf, jA_uIf, ne_eq, not_false_eq_true, not_true_eq_false, reduceCtorEq, Nat.reduceEqDiff, forall_eq, true_and, and_true, true_implies, forall_const, implies_true, List.mem_cons, List.not_mem_nil, or_false, false_or, or_self, if_true, if_false, reduceIte, Nat.reduceAdd, Nat.reduceMul, Nat.reduceLT, false_implies, Decidable.not_not, bI_eq0, bI_eq1, upd_at, updL_at, Nat.succ_ne_zero, Int32.reduceToNatClampNeg, List.length_cons]) (by simp only [List.length_cons]; omega) ⟨by simp only [jN_uI, jN_uJ, jN_uR, jK_uI, jK_uJ, jK_uR, jZ_uI, jZ_uJ, jZ_uR, jR_uI, jR_uJ, jr_uI, jr_uJ, jI_uJ, jI_uR, jJ_uI, jJ_uR, jI_uI_eq, jI_uI_ne, jJ_uJ_eq, jJ_uJ_ne, jSh_uI, jSh_uJ, jA_uI, jA_uJ, jA_uR, jI_uIf_eq, jI_uIf_ne, jJ_uIf, jR_uIf, jr_uIf, jZ_uIf, jSh_uIf, jA_uIf, ne_eq, not_false_eq_true, not_true_eq_false, reduceCtorEq, Nat.reduceEqDiff, forall_eq, true_and, and_true, true_implies, forall_const, implies_true, List.mem_cons, List.not_mem_nil, or_false, false_or, or_self, if_true, if_false, reduceIte, Nat.reduceAdd, Nat.reduceMul, Nat.reduceLT, false_implies, Decidable.not_not, bI_eq0, bI_eq1, upd_at, updL_at, Nat.succ_ne_zero, Int32.reduceToNatClampNeg], ?_⟩
      simp only [jN_uI, jN_uJ, jN_uR, jK_uI, jK_uJ, jK_uR, jZ_uI, jZ_uJ, jZ_uR, jR_uI, jR_uJ, jr_uI, jr_uJ, jI_uJ, jI_uR, jJ_uI, jJ_uR, jI_uI_eq, jI_uI_ne, jJ_uJ_eq, jJ_uJ_ne, jSh_uI, jSh_uJ, jA_uI, jA_uJ, jA_uR, jI_uIf_eq, jI_uIf_ne, jJ_uIf, jR_uIf, jr_uIf, jZ_uIf, jSh_uIf, jA_uIf]; exact stk_upd1 s1.2.2 (Nat.le_refl _)
  · intro k x st hk ho hp _ S1 f1 t1 l1 s1
    have hs1 : jSh S1 := f1.sh.mpr hs
    refine body _ _ ?_
    unfold bX0_work_12
    rw [nI_le' (by omega) (by omega), f1.Z, hz, show Int32.ofNat cs = nI cs from rfl, nI_le' (by omega) (by omega), nI_tn (by omega), f1.I hc hne]
    simp only [shA_24, shA_25, shZ_25, shA_26, shZ_26, shR_24_0, shr_24_0, shR_24_1, shr_24_1, hs, hs1, (f1.A hc 13).mpr hA, f1.I 25 (by decide), jN_uI, jN_uJ, jN_uR, jK_uI, jK_uJ, jK_uR, jZ_uI, jZ_uJ, jZ_uR, jR_uI, jR_uJ, jr_uI, jr_uJ, jI_uJ, jI_uR, jJ_uI, jJ_uR, jI_uI_eq, jI_uI_ne, jJ_uJ_eq, jJ_uJ_ne, jSh_uI, jSh_uJ, jA_uI, jA_uJ, jA_uR, jI_uIf_eq, jI_uIf_ne, jJ_uIf, jR_uIf, jr_uIf, jZ_uIf, jSh_uIf, jA_uIf, ne_eq, not_false_eq_true, not_true_eq_false, reduceCtorEq, Nat.reduceEqDiff, forall_eq, true_and, and_true, true_implies, forall_const, implies_true, List.mem_cons, List.not_mem_nil, or_false, false_or, or_self, if_true, if_false, reduceIte, Nat.reduceAdd, Nat.reduceMul, Nat.reduceLT, false_implies, Decidable.not_not, bI_eq0, bI_eq1, upd_at, updL_at, Nat.succ_ne_zero, Int32.reduceToNatClampNeg]
    refine ⟨fun q => absurd q (by omega), fun _ => ⟨fun q => absurd q (by omega), fun _ => ⟨nI_in2 (by omega) (by omega), ?_⟩⟩⟩
    rw [show jI S hc k &&& 31 = cSg (jI S hc k) from rfl, show jushr (jI S hc k) 5 = cWt (jI S hc k) from rfl]
    simp only [List.length_cons] at t1 l1
    refine ⟨fun _ => ⟨fun q => absurd q (by lia), fun _ => ⟨fun _ => ⟨fun q => absurd ho q, fun _ => ?_⟩, fun q => absurd q (by lia)⟩⟩, fun q => absurd q (by lia)⟩
    rw [t1, nI_m1 (by omega), nI_tn (by omega), show st.length + 1 + 1 - 1 = st.length + 1 by omega, show jJ S1 26 (st.length + 1) = x from s1.1]
    refine ⟨nI_in2 (by omega) (by omega), ?_⟩
    unfold wX0_work_125
    intro z hz; rw [nI_1] at hz; subst hz
    refine hp (by omega) _ (f1.uJ (by decide)) (by simp only [jN_uI, jN_uJ, jN_uR, jK_uI, jK_uJ, jK_uR, jZ_uI, jZ_uJ, jZ_uR, jR_uI, jR_uJ, jr_uI, jr_uJ, jI_uJ, jI_uR, jJ_uI, jJ_uR, jI_uI_eq, jI_uI_ne, jJ_uJ_eq, jJ_uJ_ne, jSh_uI, jSh_uJ, jA_uI, jA_uJ, jA_uR, jI_uIf_eq, jI_uIf_ne, jJ_uIf, jR_uIf, jr_uIf, jZ_uIf, jSh_uIf, jA_uIf, ne_eq, not_false_eq_true, not_true_eq_false, reduceCtorEq, Nat.reduceEqDiff, forall_eq, true_and, and_true, true_implies, forall_const, implies_true, List.mem_cons, List.not_mem_nil, or_false, false_or, or_self, if_true, if_false, reduceIte, Nat.reduceAdd, Nat.reduceMul, Nat.reduceLT, false_implies, Decidable.not_not, bI_eq0, bI_eq1, upd_at, updL_at, Nat.succ_ne_zero, Int32.reduceToNatClampNeg, List.length_cons]; exact t1) (by simp only [List.length_cons]; omega) ⟨by simp only [jN_uI, jN_uJ, jN_uR, jK_uI, jK_uJ, jK_uR, jZ_uI, jZ_uJ, jZ_uR, jR_uI, jR_uJ, jr_uI, jr_uJ, jI_uJ, jI_uR, jJ_uI, jJ_uR, jI_uI_eq, jI_uI_ne, jJ_uJ_eq, jJ_uJ_ne, jSh_uI, jSh_uJ, jA_uI, jA_uJ, jA_uR, jI_uIf_eq, jI_uIf_ne, jJ_uIf, jR_uIf, jr_uIf, jZ_uIf, jSh_uIf, jA_uIf, ne_eq, not_false_eq_true, not_true_eq_false, reduceCtorEq, Nat.reduceEqDiff, forall_eq, true_and, and_true, true_implies, forall_const, implies_true, List.mem_cons, List.not_mem_nil, or_false, false_or, or_self, if_true, if_false, reduceIte, Nat.reduceAdd, Nat.reduceMul, Nat.reduceLT, false_implies, Decidable.not_not, bI_eq0, bI_eq1, upd_at, updL_at, Nat.succ_ne_zero, Int32.reduceToNatClampNeg], ?_⟩
    simp only [jN_uI, jN_uJ, jN_uR, jK_uI, jK_uJ, jK_uR, jZ_uI, jZ_uJ, jZ_uR, jR_uI, jR_uJ, jr_uI, jr_uJ, jI_uJ, jI_uR, jJ_uI, jJ_uR, jI_uI_eq, jI_uI_ne, jJ_uJ_eq, jJ_uJ_ne, jSh_uI, jSh_uJ, jA_uI, jA_uJ, jA_uR, jI_uIf_eq, jI_uIf_ne, jJ_uIf, jR_uIf, jr_uIf, jZ_uIf, jSh_uIf, jA_uIf]; exact stk_upd1 s1.2 (Nat.le_refl _)
  · intro k x j st hk ho hj h1 h2 hp hq _ S1 f1 t1 l1 s1
    have hs1 : jSh S1 := f1.sh.mpr hs
    refine body _ _ ?_
    unfold bX0_work_12
    rw [nI_le' (by omega) (by omega), f1.Z, hz, show Int32.ofNat cs = nI cs from rfl, nI_le' (by omega) (by omega), nI_tn (by omega), f1.I hc hne]
    simp only [shA_24, shA_25, shZ_25, shA_26, shZ_26, shR_24_0, shr_24_0, shR_24_1, shr_24_1, hs, hs1, (f1.A hc 13).mpr hA, f1.I 25 (by decide), jN_uI, jN_uJ, jN_uR, jK_uI, jK_uJ, jK_uR, jZ_uI, jZ_uJ, jZ_uR, jR_uI, jR_uJ, jr_uI, jr_uJ, jI_uJ, jI_uR, jJ_uI, jJ_uR, jI_uI_eq, jI_uI_ne, jJ_uJ_eq, jJ_uJ_ne, jSh_uI, jSh_uJ, jA_uI, jA_uJ, jA_uR, jI_uIf_eq, jI_uIf_ne, jJ_uIf, jR_uIf, jr_uIf, jZ_uIf, jSh_uIf, jA_uIf, ne_eq, not_false_eq_true, not_true_eq_false, reduceCtorEq, Nat.reduceEqDiff, forall_eq, true_and, and_true, true_implies, forall_const, implies_true, List.mem_cons, List.not_mem_nil, or_false, false_or, or_self, if_true, if_false, reduceIte, Nat.reduceAdd, Nat.reduceMul, Nat.reduceLT, false_implies, Decidable.not_not, bI_eq0, bI_eq1, upd_at, updL_at, Nat.succ_ne_zero, Int32.reduceToNatClampNeg]
    refine ⟨fun q => absurd q (by omega), fun _ => ⟨fun q => absurd q (by omega), fun _ => ⟨nI_in2 (by omega) (by omega), ?_⟩⟩⟩
    rw [show jI S hc k &&& 31 = cSg (jI S hc k) from rfl, show jushr (jI S hc k) 5 = cWt (jI S hc k) from rfl]
    simp only [List.length_cons] at t1 l1
    refine ⟨fun _ => ⟨fun q => absurd q (by lia), fun _ => ⟨fun q => absurd ho q, fun _ => ?_⟩⟩, fun q => absurd q (by lia)⟩
    unfold wX0_work_53 wX0_work_66 wX0_work_72 wX0_work_82 wX0_work_90 wX0_work_97 wX0_work_125
    have tt : (1 : Int32) < nI (st.length + 1 + 1) ↔ True := iff_true_intro ((nI_lt' (a := 1) (by omega) (by omega)).mpr (by omega))
    simp only [shA_24, shA_26, shZ_26, shR_24_0, shr_24_0, shR_24_1, shr_24_1, hs1, t1, hj, nI_m1 (show 0 < st.length + 1 + 1 by omega), nI_m1 (show 0 < j by omega), nI_1, jN_uI, jN_uJ, jN_uR, jK_uI, jK_uJ, jK_uR, jZ_uI, jZ_uJ, jZ_uR, jR_uI, jR_uJ, jr_uI, jr_uJ, jI_uJ, jI_uR, jJ_uI, jJ_uR, jI_uI_eq, jI_uI_ne, jJ_uJ_eq, jJ_uJ_ne, jSh_uI, jSh_uJ, jA_uI, jA_uJ, jA_uR, jI_uIf_eq, jI_uIf_ne, jJ_uIf, jR_uIf, jr_uIf, jZ_uIf, jSh_uIf, jA_uIf, ne_eq, not_false_eq_true, not_true_eq_false, reduceCtorEq, Nat.reduceEqDiff, forall_eq, true_and, and_true, true_implies, forall_const, implies_true, List.mem_cons, List.not_mem_nil, or_false, false_or, or_self, if_true, if_false, reduceIte, Nat.reduceAdd, Nat.reduceMul, Nat.reduceLT, false_implies, Decidable.not_not, bI_eq0, bI_eq1, upd_at, updL_at, Nat.succ_ne_zero, Int32.reduceToNatClampNeg]
    rw [nI_tn (by omega), show st.length + 1 + 1 - 1 = st.length + 1 by omega, show jJ S1 26 (st.length + 1) = x from s1.1]
    refine ⟨nI_in2 (by omega) (by omega), ?_⟩
    have ej : (if nI k < nI (j - 1) then nI (j - 1) else nI k) = nI (j - 1) := by
      split
      · rfl
      · rename_i q; rw [nI_lt' (by omega) (by omega)] at q; rw [show k = j - 1 by omega]
    simp only [ej, nI_1, show j - 1 + 1 = j by omega, tt, show ((1 : Int32) = 0) ↔ False from by decide, ne_eq, not_false_eq_true, not_true_eq_false, reduceCtorEq, Nat.reduceEqDiff, forall_eq, true_and, and_true, true_implies, forall_const, implies_true, List.mem_cons, List.not_mem_nil, or_false, false_or, or_self, if_true, if_false, reduceIte, Nat.reduceAdd, Nat.reduceMul, Nat.reduceLT, false_implies, Decidable.not_not, bI_eq0, bI_eq1, upd_at, updL_at, Nat.succ_ne_zero, Int32.reduceToNatClampNeg]
    have js : (∀ S2, jFr [24, 26] S S2 → jI S2 24 2 = nI ((x :: st).length + 1) → (x :: st).length ≤ 31 → stk (fun i => jJ S2 26 (i + 1)) (x :: st) → jLoop F (24, hc, nI b, nI j, S2)) → jLoop F (24, hc, nI b, nI j, uI S1 24 2 (nI (st.length + 1 + 1))) := fun hh => hh _ (f1.uI (by decide)) (by simp only [jN_uI, jN_uJ, jN_uR, jK_uI, jK_uJ, jK_uR, jZ_uI, jZ_uJ, jZ_uR, jR_uI, jR_uJ, jr_uI, jr_uJ, jI_uJ, jI_uR, jJ_uI, jJ_uR, jI_uI_eq, jI_uI_ne, jJ_uJ_eq, jJ_uJ_ne, jSh_uI, jSh_uJ, jA_uI, jA_uJ, jA_uR, jI_uIf_eq, jI_uIf_ne, jJ_uIf, jR_uIf, jr_uIf, jZ_uIf, jSh_uIf, jA_uIf, ne_eq, not_false_eq_true, not_true_eq_false, reduceCtorEq, Nat.reduceEqDiff, forall_eq, true_and, and_true, true_implies, forall_const, implies_true, List.mem_cons, List.not_mem_nil, or_false, false_or, or_self, if_true, if_false, reduceIte, Nat.reduceAdd, Nat.reduceMul, Nat.reduceLT, false_implies, Decidable.not_not, bI_eq0, bI_eq1, upd_at, updL_at, Nat.succ_ne_zero, Int32.reduceToNatClampNeg, List.length_cons]) (by simp only [List.length_cons]; omega) s1
    have jn : (∀ S2, jFr [24, 26] S S2 → jI S2 24 2 = nI (st.length + 1) → st.length ≤ 31 → stk (fun i => jJ S2 26 (i + 1)) st → jLoop F (24, hc, nI b, nI (k + 1), S2)) → jLoop F (24, hc, nI b, nI (k + 1), uI S1 24 2 (nI (st.length + 1))) := fun hh => hh _ (f1.uI (by decide)) (by simp only [jN_uI, jN_uJ, jN_uR, jK_uI, jK_uJ, jK_uR, jZ_uI, jZ_uJ, jZ_uR, jR_uI, jR_uJ, jr_uI, jr_uJ, jI_uJ, jI_uR, jJ_uI, jJ_uR, jI_uI_eq, jI_uI_ne, jJ_uJ_eq, jJ_uJ_ne, jSh_uI, jSh_uJ, jA_uI, jA_uJ, jA_uR, jI_uIf_eq, jI_uIf_ne, jJ_uIf, jR_uIf, jr_uIf, jZ_uIf, jSh_uIf, jA_uIf, ne_eq, not_false_eq_true, not_true_eq_false, reduceCtorEq, Nat.reduceEqDiff, forall_eq, true_and, and_true, true_implies, forall_const, implies_true, List.mem_cons, List.not_mem_nil, or_false, false_or, or_self, if_true, if_false, reduceIte, Nat.reduceAdd, Nat.reduceMul, Nat.reduceLT, false_implies, Decidable.not_not, bI_eq0, bI_eq1, upd_at, updL_at, Nat.succ_ne_zero, Int32.reduceToNatClampNeg]) (by omega) s1.2
    have e1 : lg_cmp x ((0 : Int32).toInt64) = 0 ↔ x = 0 := by rw [lg_cmp_eq]; rfl
    refine ⟨fun _ => ⟨fun q => jn (hq (fun z => q (e1.mpr z)) (by omega)), fun q => js (hp (e1.mp q) (by omega))⟩, fun q => absurd q (by rw [ho]; decide)⟩
  · intro k x j st hk ho hj h1 h2 hp hq _ S1 f1 t1 l1 s1
    have hs1 : jSh S1 := f1.sh.mpr hs
    refine body _ _ ?_
    unfold bX0_work_12
    rw [nI_le' (by omega) (by omega), f1.Z, hz, show Int32.ofNat cs = nI cs from rfl, nI_le' (by omega) (by omega), nI_tn (by omega), f1.I hc hne]
    simp only [shA_24, shA_25, shZ_25, shA_26, shZ_26, shR_24_0, shr_24_0, shR_24_1, shr_24_1, hs, hs1, (f1.A hc 13).mpr hA, f1.I 25 (by decide), jN_uI, jN_uJ, jN_uR, jK_uI, jK_uJ, jK_uR, jZ_uI, jZ_uJ, jZ_uR, jR_uI, jR_uJ, jr_uI, jr_uJ, jI_uJ, jI_uR, jJ_uI, jJ_uR, jI_uI_eq, jI_uI_ne, jJ_uJ_eq, jJ_uJ_ne, jSh_uI, jSh_uJ, jA_uI, jA_uJ, jA_uR, jI_uIf_eq, jI_uIf_ne, jJ_uIf, jR_uIf, jr_uIf, jZ_uIf, jSh_uIf, jA_uIf, ne_eq, not_false_eq_true, not_true_eq_false, reduceCtorEq, Nat.reduceEqDiff, forall_eq, true_and, and_true, true_implies, forall_const, implies_true, List.mem_cons, List.not_mem_nil, or_false, false_or, or_self, if_true, if_false, reduceIte, Nat.reduceAdd, Nat.reduceMul, Nat.reduceLT, false_implies, Decidable.not_not, bI_eq0, bI_eq1, upd_at, updL_at, Nat.succ_ne_zero, Int32.reduceToNatClampNeg]
    refine ⟨fun q => absurd q (by omega), fun _ => ⟨fun q => absurd q (by omega), fun _ => ⟨nI_in2 (by omega) (by omega), ?_⟩⟩⟩
    rw [show jI S hc k &&& 31 = cSg (jI S hc k) from rfl, show jushr (jI S hc k) 5 = cWt (jI S hc k) from rfl]
    simp only [List.length_cons] at t1 l1
    refine ⟨fun _ => ⟨fun _ => ?_, fun q => absurd ho q⟩, fun q => absurd q (by lia)⟩
    unfold wX0_work_53 wX0_work_66 wX0_work_72 wX0_work_82 wX0_work_90 wX0_work_97 wX0_work_125
    have tt : (1 : Int32) < nI (st.length + 1 + 1) ↔ True := iff_true_intro ((nI_lt' (a := 1) (by omega) (by omega)).mpr (by omega))
    simp only [shA_24, shA_26, shZ_26, shR_24_0, shr_24_0, shR_24_1, shr_24_1, hs1, t1, hj, nI_m1 (show 0 < st.length + 1 + 1 by omega), nI_m1 (show 0 < j by omega), nI_1, jN_uI, jN_uJ, jN_uR, jK_uI, jK_uJ, jK_uR, jZ_uI, jZ_uJ, jZ_uR, jR_uI, jR_uJ, jr_uI, jr_uJ, jI_uJ, jI_uR, jJ_uI, jJ_uR, jI_uI_eq, jI_uI_ne, jJ_uJ_eq, jJ_uJ_ne, jSh_uI, jSh_uJ, jA_uI, jA_uJ, jA_uR, jI_uIf_eq, jI_uIf_ne, jJ_uIf, jR_uIf, jr_uIf, jZ_uIf, jSh_uIf, jA_uIf, ne_eq, not_false_eq_true, not_true_eq_false, reduceCtorEq, Nat.reduceEqDiff, forall_eq, true_and, and_true, true_implies, forall_const, implies_true, List.mem_cons, List.not_mem_nil, or_false, false_or, or_self, if_true, if_false, reduceIte, Nat.reduceAdd, Nat.reduceMul, Nat.reduceLT, false_implies, Decidable.not_not, bI_eq0, bI_eq1, upd_at, updL_at, Nat.succ_ne_zero, Int32.reduceToNatClampNeg]
    rw [nI_tn (by omega), show st.length + 1 + 1 - 1 = st.length + 1 by omega, show jJ S1 26 (st.length + 1) = x from s1.1]
    refine ⟨nI_in2 (by omega) (by omega), ?_⟩
    have ej : (if nI k < nI (j - 1) then nI (j - 1) else nI k) = nI (j - 1) := by
      split
      · rfl
      · rename_i q; rw [nI_lt' (by omega) (by omega)] at q; rw [show k = j - 1 by omega]
    simp only [ej, nI_1, show j - 1 + 1 = j by omega, tt, show ((1 : Int32) = 0) ↔ False from by decide, ne_eq, not_false_eq_true, not_true_eq_false, reduceCtorEq, Nat.reduceEqDiff, forall_eq, true_and, and_true, true_implies, forall_const, implies_true, List.mem_cons, List.not_mem_nil, or_false, false_or, or_self, if_true, if_false, reduceIte, Nat.reduceAdd, Nat.reduceMul, Nat.reduceLT, false_implies, Decidable.not_not, bI_eq0, bI_eq1, upd_at, updL_at, Nat.succ_ne_zero, Int32.reduceToNatClampNeg]
    have js : (∀ S2, jFr [24, 26] S S2 → jI S2 24 2 = nI ((x :: st).length + 1) → (x :: st).length ≤ 31 → stk (fun i => jJ S2 26 (i + 1)) (x :: st) → jLoop F (24, hc, nI b, nI j, S2)) → jLoop F (24, hc, nI b, nI j, uI S1 24 2 (nI (st.length + 1 + 1))) := fun hh => hh _ (f1.uI (by decide)) (by simp only [jN_uI, jN_uJ, jN_uR, jK_uI, jK_uJ, jK_uR, jZ_uI, jZ_uJ, jZ_uR, jR_uI, jR_uJ, jr_uI, jr_uJ, jI_uJ, jI_uR, jJ_uI, jJ_uR, jI_uI_eq, jI_uI_ne, jJ_uJ_eq, jJ_uJ_ne, jSh_uI, jSh_uJ, jA_uI, jA_uJ, jA_uR, jI_uIf_eq, jI_uIf_ne, jJ_uIf, jR_uIf, jr_uIf, jZ_uIf, jSh_uIf, jA_uIf, ne_eq, not_false_eq_true, not_true_eq_false, reduceCtorEq, Nat.reduceEqDiff, forall_eq, true_and, and_true, true_implies, forall_const, implies_true, List.mem_cons, List.not_mem_nil, or_false, false_or, or_self, if_true, if_false, reduceIte, Nat.reduceAdd, Nat.reduceMul, Nat.reduceLT, false_implies, Decidable.not_not, bI_eq0, bI_eq1, upd_at, updL_at, Nat.succ_ne_zero, Int32.reduceToNatClampNeg, List.length_cons]) (by simp only [List.length_cons]; omega) s1
    have jn : (∀ S2, jFr [24, 26] S S2 → jI S2 24 2 = nI (st.length + 1) → st.length ≤ 31 → stk (fun i => jJ S2 26 (i + 1)) st → jLoop F (24, hc, nI b, nI (k + 1), S2)) → jLoop F (24, hc, nI b, nI (k + 1), uI S1 24 2 (nI (st.length + 1))) := fun hh => hh _ (f1.uI (by decide)) (by simp only [jN_uI, jN_uJ, jN_uR, jK_uI, jK_uJ, jK_uR, jZ_uI, jZ_uJ, jZ_uR, jR_uI, jR_uJ, jr_uI, jr_uJ, jI_uJ, jI_uR, jJ_uI, jJ_uR, jI_uI_eq, jI_uI_ne, jJ_uJ_eq, jJ_uJ_ne, jSh_uI, jSh_uJ, jA_uI, jA_uJ, jA_uR, jI_uIf_eq, jI_uIf_ne, jJ_uIf, jR_uIf, jr_uIf, jZ_uIf, jSh_uIf, jA_uIf, ne_eq, not_false_eq_true, not_true_eq_false, reduceCtorEq, Nat.reduceEqDiff, forall_eq, true_and, and_true, true_implies, forall_const, implies_true, List.mem_cons, List.not_mem_nil, or_false, false_or, or_self, if_true, if_false, reduceIte, Nat.reduceAdd, Nat.reduceMul, Nat.reduceLT, false_implies, Decidable.not_not, bI_eq0, bI_eq1, upd_at, updL_at, Nat.succ_ne_zero, Int32.reduceToNatClampNeg]) (by omega) s1.2
    have e1 : lg_cmp x ((1 : Int32).toInt64) = 0 ↔ x = 1 := by rw [lg_cmp_eq]; rfl
    refine ⟨fun q => absurd ho q, fun _ => ⟨fun q => jn (hq (fun z => q (e1.mpr z)) (by omega)), fun q => js (hp (e1.mp q) (by omega))⟩⟩
  · intro v ev _ S1 f1 t1 l1 s1
    have hs1 : jSh S1 := f1.sh.mpr hs
    refine body _ _ ?_
    unfold bX0_work_12 wX0_work_127
    rw [nI_le' (by omega) (by omega)]
    simp only [shA_24, shA_26, shZ_26, shR_24_0, shr_24_0, shR_24_1, shr_24_1, hs1, t1, jN_uI, jN_uJ, jN_uR, jK_uI, jK_uJ, jK_uR, jZ_uI, jZ_uJ, jZ_uR, jR_uI, jR_uJ, jr_uI, jr_uJ, jI_uJ, jI_uR, jJ_uI, jJ_uR, jI_uI_eq, jI_uI_ne, jJ_uJ_eq, jJ_uJ_ne, jSh_uI, jSh_uJ, jA_uI, jA_uJ, jA_uR, jI_uIf_eq, jI_uIf_ne, jJ_uIf, jR_uIf, jr_uIf, jZ_uIf, jSh_uIf, jA_uIf, ne_eq, not_false_eq_true, not_true_eq_false, reduceCtorEq, Nat.reduceEqDiff, forall_eq, true_and, and_true, true_implies, forall_const, implies_true, List.mem_cons, List.not_mem_nil, or_false, false_or, or_self, if_true, if_false, reduceIte, Nat.reduceAdd, Nat.reduceMul, Nat.reduceLT, false_implies, Decidable.not_not, bI_eq0, bI_eq1, upd_at, updL_at, Nat.succ_ne_zero, Int32.reduceToNatClampNeg]
    refine ⟨fun _ => ?_, fun q => absurd (Nat.le_refl _) q⟩
    rw [show nI ([v].length + 1) - 1 = nI 1 from nI_pred 1, nI_tn (by omega), show jJ S1 26 1 = v from s1.1]
    exact ⟨nI_in2 (by omega) (by omega), hv v ev _ f1⟩
theorem sX0_work0 {S : JS} {Q : Int64 → JS → Prop} {hc a : Nat} (hs : jSh S) (ha : a ≤ 400) (h : ∀ S', jFr [24, 26] S S' → Q 1 S') : wX0_work 24 hc (nI a) (nI a) S Q := by
  unfold wX0_work
  simp only [shA_24, shA_26, shZ_26, shR_24_0, shr_24_0, shR_24_1, shr_24_1, hs, jN_uI, jN_uJ, jN_uR, jK_uI, jK_uJ, jK_uR, jZ_uI, jZ_uJ, jZ_uR, jR_uI, jR_uJ, jr_uI, jr_uJ, jI_uJ, jI_uR, jJ_uI, jJ_uR, jI_uI_eq, jI_uI_ne, jJ_uJ_eq, jJ_uJ_ne, jSh_uI, jSh_uJ, jA_uI, jA_uJ, jA_uR, jI_uIf_eq, jI_uIf_ne, jJ_uIf, jR_uIf, jr_uIf, jZ_uIf, jSh_uIf, jA_uIf, ne_eq, not_false_eq_true, not_true_eq_false, reduceCtorEq, Nat.reduceEqDiff, forall_eq, true_and, and_true, true_implies, forall_const, implies_true, List.mem_cons, List.not_mem_nil, or_false, false_or, or_self, if_true, if_false, reduceIte, Nat.reduceAdd, Nat.reduceMul, Nat.reduceLT, false_implies, Decidable.not_not, bI_eq0, bI_eq1, upd_at, updL_at, Nat.succ_ne_zero, Int32.reduceToNatClampNeg]
  refine ⟨nI_in2 (n := 0) (by omega) (by omega), ?_⟩
  have ea : (if 0 < nI a then nI a else 0) = nI a := by
    split
    · rfl
    · rename_i q; have := nI_nn (n := a) (by omega); lia
  rw [ea]
  unfold wX0_work_12
  refine jLoop.roll ?_
  unfold bX0_work_12 wX0_work_127
  rw [nI_le' (by omega) (by omega)]
  simp only [shA_24, shA_26, shZ_26, shR_24_0, shr_24_0, shR_24_1, shr_24_1, hs, jN_uI, jN_uJ, jN_uR, jK_uI, jK_uJ, jK_uR, jZ_uI, jZ_uJ, jZ_uR, jR_uI, jR_uJ, jr_uI, jr_uJ, jI_uJ, jI_uR, jJ_uI, jJ_uR, jI_uI_eq, jI_uI_ne, jJ_uJ_eq, jJ_uJ_ne, jSh_uI, jSh_uJ, jA_uI, jA_uJ, jA_uR, jI_uIf_eq, jI_uIf_ne, jJ_uIf, jR_uIf, jr_uIf, jZ_uIf, jSh_uIf, jA_uIf, ne_eq, not_false_eq_true, not_true_eq_false, reduceCtorEq, Nat.reduceEqDiff, forall_eq, true_and, and_true, true_implies, forall_const, implies_true, List.mem_cons, List.not_mem_nil, or_false, false_or, or_self, if_true, if_false, reduceIte, Nat.reduceAdd, Nat.reduceMul, Nat.reduceLT, false_implies, Decidable.not_not, bI_eq0, bI_eq1, upd_at, updL_at, Nat.succ_ne_zero, Int32.reduceToNatClampNeg]
  refine ⟨fun _ => ⟨nI_in2 (n := 0) (by omega) (by omega), ?_⟩, fun q => absurd (Nat.le_refl _) q⟩
  have := h (uJ (uI S 24 2 1) 26 0 1) (((jFr.refl _ _).uI (by decide)).uJ (by decide))
  rw [show ((1 : Int32) - 1).toNatClampNeg = 0 from rfl, if_pos rfl]; exact this
