theorem i01 : ((0 : Int32) = 1) ↔ False := by decide
theorem i10 : ((1 : Int32) = 0) ↔ False := by decide
theorem lN_lt' {a b : Nat} (ha : a < 9000000000000000) (hb : b < 9000000000000000) : lN a < lN b ↔ a < b := pk_lLT (by omega) (by omega)
theorem lN_le' {a b : Nat} (ha : a < 9000000000000000) (hb : b < 9000000000000000) : lN a ≤ lN b ↔ a ≤ b := pk_lLE (by omega) (by omega)
theorem lN_eq' {a b : Nat} (ha : a < 9000000000000000) (hb : b < 9000000000000000) : lN a = lN b ↔ a = b := pk_lEQ (by omega) (by omega)
theorem nI_toL {n : Nat} (h : n < 1000000) : (nI n).toInt64 = lN n := nI_l (by omega)
theorem lil : (1000000000000 : Int64) = lN 1000000000000 := rfl
theorem sJ7_fill {S : JS} {Q : JS → Prop} {h z : Nat} {v : Int32} (hA : jA S h 13) (hz : jZ S h = z) (hz2 : z < 1000000) (hq : ∀ S', jFr [h] S S' → (∀ i, i < z → jI S' h i = v) → Q S') : wJ7_fill_53178 h v S Q := by
  unfold wJ7_fill_53178
  refine ⟨hA, ?_⟩
  rw [hz]
  refine nm_e ?_
  unfold wJ7_fill_53178_5
  refine jLoop.cnt z (fun c q => ∃ S', q = (h, v, nI c, nI z, S') ∧ jFr [h] S S' ∧ ∀ i, i < c → jI S' h i = v) 0 (Nat.zero_le _) ?_ ⟨S, rfl, jFr.refl _ _, fun i hi => absurd hi (Nat.not_lt_zero _)⟩
  rintro c _ hc ⟨S1, rfl, f1, i1⟩
  unfold bJ7_fill_53178_5
  simp only [f1.A, hA, f1.Z, hz, nI_1, ne_eq, not_false_eq_true, not_true_eq_false, reduceCtorEq, Nat.reduceEqDiff, forall_eq, true_and, and_true, true_implies, forall_const, implies_true, List.mem_cons, List.not_mem_nil, or_false, false_or, or_self, if_true, if_false, reduceIte, Nat.reduceAdd, Nat.reduceMul, Nat.reduceLT, false_implies, Decidable.not_not, bI_eq0, bI_eq1, upd_at, updL_at, Nat.succ_ne_zero, Int32.reduceToNatClampNeg, eq_self, i01, i10]
  rw [nI_le' (by omega) (by omega), nI_tn (by omega)]
  refine ⟨fun q => hq S1 f1 (fun i hi => i1 i (by omega)), fun q => ⟨nI_in2 (by omega) hz2, by omega, _, rfl, f1.uI (by simp), fun i hi => ?_⟩⟩
  rw [jI_uI_eq, upd_at]
  split
  · rfl
  · exact i1 i (by omega)
