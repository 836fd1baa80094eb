/-! THREES of any handles -/
def T8 (S : JS) (a a1 a2 a3 m : Nat) : Prop := jA S a 8 ∧ (jR S a 0 = some a1 ∧ jR S a 1 = some a2 ∧ jR S a 2 = some a3) ∧ (jA S a1 13 ∧ jA S a2 13 ∧ jA S a3 13) ∧ (jZ S a1 = m ∧ jZ S a2 = m ∧ jZ S a3 = m) ∧ (a ≠ a1 ∧ a ≠ a2 ∧ a ≠ a3 ∧ a1 ≠ a2 ∧ a1 ≠ a3 ∧ a2 ≠ a3) ∧ m < 100
section T8
variable {S S' : JS} {a a1 a2 a3 m n : Nat} {H : List Nat}
theorem T8.fr (f : jFr H S S') (q : T8 S a a1 a2 a3 m) : T8 S' a a1 a2 a3 m := by
  unfold T8 at q ⊢
  rw [f.R, f.Z]; simp only [f.A]; exact q
theorem T8_w (hs : jSh S) : T8 S 2 3 4 5 4 := ⟨shA_2 hs, ⟨by simp only [shA_2, shR_2_0, shr_2_0, shR_2_1, shr_2_1, shR_2_2, shr_2_2, hs], by simp only [shA_2, shR_2_0, shr_2_0, shR_2_1, shr_2_1, shR_2_2, shr_2_2, hs], by simp only [shA_2, shR_2_0, shr_2_0, shR_2_1, shr_2_1, shR_2_2, shr_2_2, hs]⟩, ⟨shA_3 hs, shA_4 hs, shA_5 hs⟩, ⟨shZ_3 hs, shZ_4 hs, shZ_5 hs⟩, by decide, by decide⟩
theorem T8_q (hs : jSh S) : T8 S 6 7 8 9 16 := ⟨shA_6 hs, ⟨by simp only [shA_6, shR_6_0, shr_6_0, shR_6_1, shr_6_1, shR_6_2, shr_6_2, hs], by simp only [shA_6, shR_6_0, shr_6_0, shR_6_1, shr_6_1, shR_6_2, shr_6_2, hs], by simp only [shA_6, shR_6_0, shr_6_0, shR_6_1, shr_6_1, shR_6_2, shr_6_2, hs]⟩, ⟨shA_7 hs, shA_8 hs, shA_9 hs⟩, ⟨shZ_7 hs, shZ_8 hs, shZ_9 hs⟩, by decide, by decide⟩
theorem sX8_isFull {Q : Int32 → JS → Prop} (q : T8 S a a1 a2 a3 m) (h3 : jI S a 3 = nI n) (hn : n ≤ m) (h0 : n < m → Q 0 S) (h1 : n = m → Q 1 S) : wX8_isFull a S Q := by
  obtain ⟨A, ⟨r1, r2, r3⟩, ⟨A1, A2, A3⟩, ⟨z1, z2, z3⟩, d, hm⟩ := q
  unfold wX8_isFull
  rw [r1, jr_of r1, h3, z1]
  have e : (nI n < Int32.ofNat m) ↔ n < m := nI_lt' (by omega) (by omega)
  rw [e]
  exact ⟨A, by simp, A1, h0, fun z => h1 (by omega)⟩
theorem sX8_put {Q : JS → Prop} {x y z : Int32} (q : T8 S a a1 a2 a3 m) (h3 : jI S a 3 = nI n) (hn : n < m) (h : Q (uI (uI (uI (uI S a1 n x) a2 n y) a3 n z) a 3 (nI (n + 1)))) : wX8_put a x y z S Q := by
  obtain ⟨A, ⟨r1, r2, r3⟩, ⟨A1, A2, A3⟩, ⟨z1, z2, z3⟩, ⟨d1, d2, d3, d4, d5, d6⟩, hm⟩ := id q
  unfold wX8_put
  refine ⟨A, sX8_isFull q h3 (by omega) (fun _ => ⟨fun _ => ?_, fun w => absurd rfl w⟩) (fun w => by omega)⟩
  simp only [jN_uI, jN_uJ, jN_uR, jK_uI, jK_uJ, jK_uR, jZ_uI, jZ_uJ, jZ_uR, jR_uI, jR_uJ, jr_uI, jr_uJ, jI_uJ, jI_uR, jJ_uI, jJ_uR, jI_uI_eq, jI_uI_ne, jJ_uJ_eq, jJ_uJ_ne, jSh_uI, jSh_uJ, jA_uI, jA_uJ, jA_uR, jI_uIf_eq, jI_uIf_ne, jJ_uIf, jR_uIf, jr_uIf, jZ_uIf, jSh_uIf, jA_uIf, jI_uI_ne d1, jI_uI_ne d2, jI_uI_ne d3, r1, r2, r3, jr_of r1, jr_of r2, jr_of r3, A, A1, A2, A3, z1, z2, z3, h3, nI_1, ne_eq, not_false_eq_true, not_true_eq_false, reduceCtorEq, Nat.reduceEqDiff, forall_eq, true_and, and_true, true_implies, forall_const, implies_true, List.mem_cons, List.not_mem_nil, or_false, false_or, or_self, if_true, if_false, reduceIte, Nat.reduceAdd, Nat.reduceMul, Nat.reduceLT, false_implies, Decidable.not_not, bI_eq0, bI_eq1, upd_at, updL_at, Nat.succ_ne_zero, Int32.reduceToNatClampNeg, eq_self, i01, i10]
  rw [nI_tn (by omega)]
  exact ⟨nI_in2 (by omega) (by omega), nI_in2 (by omega) (by omega), nI_in2 (by omega) (by omega), h⟩
theorem sX8_has {Q : Int32 → JS → Prop} {x : Int32} (hA : jA S a 8) (h3 : jI S a 3 = nI n) (hn : n < 100) (h1 : ∀ k, k < n → x = nI k → Q 1 S) (h0 : ¬ (0 ≤ x ∧ x ≤ nI n - 1) → Q 0 S) : wX8_has a x S Q := by
  unfold wX8_has
  have p := nI_nn (n := n) (by omega)
  refine ⟨fun z => h0 (fun w => by have := w.1; lia), fun z => ⟨hA, ?_⟩⟩
  rw [h3]
  refine ⟨fun z2 => h0 (fun w => ?_), fun z2 => ?_⟩
  · have := w.2; lia
  · obtain ⟨k, k1, rfl⟩ := nI_of z
    exact h1 k (by have := (nI_ltI (a := k) (b := n) k1 (by omega)).mp (by lia); exact this) rfl
theorem sX8_drop {Q : JS → Prop} {k : Nat} (q : T8 S a a1 a2 a3 m) (h3 : jI S a 3 = nI n) (hn : n ≤ m) (hk : k < n) (h : ∀ S', jFr [a, a1, a2, a3] S S' → jI S' a 3 = nI (n - 1) → (∀ i, i < n - 1 → (jI S' a1 i = if i < k then jI S a1 i else jI S a1 (i + 1)) ∧ (jI S' a2 i = if i < k then jI S a2 i else jI S a2 (i + 1)) ∧ (jI S' a3 i = if i < k then jI S a3 i else jI S a3 (i + 1))) → Q S') : wX8_drop a (nI k) S Q := by
  obtain ⟨A, ⟨r1, r2, r3⟩, ⟨A1, A2, A3⟩, ⟨z1, z2, z3⟩, ⟨d1, d2, d3, d4, d5, d6⟩, hm⟩ := id q
  unfold wX8_drop
  refine ⟨A, sX8_has A h3 (by omega) (fun _ _ _ => ⟨fun _ => ?_, fun w => absurd w (by decide)⟩) (fun w => absurd ⟨nI_nn (by omega), ?_⟩ w)⟩
  · unfold wX8_drop_7
    refine jLoop.cnt n (fun c s => ∃ S', s = (a, nI c, S') ∧ k ≤ c ∧ c < n ∧ jFr [a, a1, a2, a3] S S' ∧ jI S' a 3 = nI n ∧ ∀ i, i < n → (jI S' a1 i = if i < k ∨ c ≤ i then jI S a1 i else jI S a1 (i + 1)) ∧ (jI S' a2 i = if i < k ∨ c ≤ i then jI S a2 i else jI S a2 (i + 1)) ∧ (jI S' a3 i = if i < k ∨ c ≤ i then jI S a3 i else jI S a3 (i + 1))) k (by omega) ?_ ⟨S, rfl, Nat.le_refl _, hk, jFr.refl _ _, h3, fun i hi => by rw [if_pos (by omega), if_pos (by omega), if_pos (by omega)]; exact ⟨rfl, rfl, rfl⟩⟩
    rintro c _ hc ⟨S1, rfl, c1, c2, f1, i3, hi⟩
    have q1 := q.fr f1
    obtain ⟨B, ⟨s1, s2, s3⟩, ⟨B1, B2, B3⟩, ⟨y1, y2, y3⟩, _, _⟩ := q1
    unfold bX8_drop_7
    simp only [jN_uI, jN_uJ, jN_uR, jK_uI, jK_uJ, jK_uR, jZ_uI, jZ_uJ, jZ_uR, jR_uI, jR_uJ, jr_uI, jr_uJ, jI_uJ, jI_uR, jJ_uI, jJ_uR, jI_uI_eq, jI_uI_ne, jJ_uJ_eq, jJ_uJ_ne, jSh_uI, jSh_uJ, jA_uI, jA_uJ, jA_uR, jI_uIf_eq, jI_uIf_ne, jJ_uIf, jR_uIf, jr_uIf, jZ_uIf, jSh_uIf, jA_uIf, nI_1, i3, B, s1, s2, s3, jr_of s1, jr_of s2, jr_of s3, B1, B2, B3, y1, y2, y3, jI_uI_ne d4.symm, jI_uI_ne d5.symm, jI_uI_ne d6.symm, jI_uI_ne d1, jI_uI_ne d2, jI_uI_ne d3, ne_eq, not_false_eq_true, not_true_eq_false, reduceCtorEq, Nat.reduceEqDiff, forall_eq, true_and, and_true, true_implies, forall_const, implies_true, List.mem_cons, List.not_mem_nil, or_false, false_or, or_self, if_true, if_false, reduceIte, Nat.reduceAdd, Nat.reduceMul, Nat.reduceLT, false_implies, Decidable.not_not, bI_eq0, bI_eq1, upd_at, updL_at, Nat.succ_ne_zero, Int32.reduceToNatClampNeg, eq_self, i01, i10]
    rw [nI_le' (by omega) (by omega), nI_tn (by omega), nI_tn (by omega)]
    refine ⟨fun z => ?_, fun z => ?_⟩
    · rw [nI_s1 (by omega)]
      refine h _ (f1.uI (by simp)) (by simp only [jN_uI, jN_uJ, jN_uR, jK_uI, jK_uJ, jK_uR, jZ_uI, jZ_uJ, jZ_uR, jR_uI, jR_uJ, jr_uI, jr_uJ, jI_uJ, jI_uR, jJ_uI, jJ_uR, jI_uI_eq, jI_uI_ne, jJ_uJ_eq, jJ_uJ_ne, jSh_uI, jSh_uJ, jA_uI, jA_uJ, jA_uR, jI_uIf_eq, jI_uIf_ne, jJ_uIf, jR_uIf, jr_uIf, jZ_uIf, jSh_uIf, jA_uIf, ne_eq, not_false_eq_true, not_true_eq_false, reduceCtorEq, Nat.reduceEqDiff, forall_eq, true_and, and_true, true_implies, forall_const, implies_true, List.mem_cons, List.not_mem_nil, or_false, false_or, or_self, if_true, if_false, reduceIte, Nat.reduceAdd, Nat.reduceMul, Nat.reduceLT, false_implies, Decidable.not_not, bI_eq0, bI_eq1, upd_at, updL_at, Nat.succ_ne_zero, Int32.reduceToNatClampNeg, eq_self, i01, i10]) (fun i hi' => ?_)
      rw [jI_uI_ne d1.symm, jI_uI_ne d2.symm, jI_uI_ne d3.symm]
      obtain ⟨u1, u2, u3⟩ := hi i (by omega)
      have e : (i < k ∨ c ≤ i) ↔ i < k := by omega
      simp only [e] at u1 u2 u3
      exact ⟨u1, u2, u3⟩
    · refine ⟨nI_in2 (by omega) (by omega), nI_in2 (by omega) (by omega), nI_in2 (by omega) (by omega), nI_in2 (by omega) (by omega), nI_in2 (by omega) (by omega), nI_in2 (by omega) (by omega), c2, _, rfl, by omega, by omega, ((f1.uI (by simp)).uI (by simp)).uI (by simp), ?_, fun i hi' => ?_⟩
      · rw [jI_uI_ne d3, jI_uI_ne d2, jI_uI_ne d1]; exact i3
      · obtain ⟨u1, u2, u3⟩ := hi i hi'
        obtain ⟨v1, v2, v3⟩ := hi (c + 1) (by omega)
        rw [if_pos (Or.inr (by omega))] at v1 v2 v3
        simp only [jI_uI_eq, jI_uI_ne d4, jI_uI_ne d5, jI_uI_ne d6, jI_uI_ne d4.symm, jI_uI_ne d5.symm, jI_uI_ne d6.symm, upd_at, v1, v2, v3]
        by_cases e : i = c
        · subst e
          have e2 : ¬ (i < k ∨ i + 1 ≤ i) := by omega
          exact ⟨by rw [if_neg e2, if_pos rfl], by rw [if_neg e2, if_pos rfl], by rw [if_neg e2, if_pos rfl]⟩
        · have e2 : (i < k ∨ c + 1 ≤ i) ↔ (i < k ∨ c ≤ i) := by omega
          simp only [if_neg e, e2]
          exact ⟨u1, u2, u3⟩
  · rw [nI_s1 (by omega), nI_le' (by omega) (by omega)]; omega
end T8
