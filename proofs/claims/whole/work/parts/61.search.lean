/-! A SEARCH AT SEA -/
def bst (f : Nat → Nat) : Nat → Nat
  | 0 => 0
  | k + 1 => if f (bst f k) < f (k + 1) then k + 1 else bst f k
theorem bst_le (f : Nat → Nat) : ∀ k, bst f k ≤ k
  | 0 => Nat.le_refl _
  | k + 1 => by have := bst_le f k; rw [bst]; split <;> omega
theorem bst_mul {f g : Nat → Nat} {m : Nat} (hm : 0 < m) : ∀ {k : Nat}, (∀ c, c ≤ k → g c = f c * m) → bst g k = bst f k
  | 0, _ => rfl
  | k + 1, h => by
    have ih := bst_mul hm (f := f) (g := g) (k := k) (fun c hc => h c (by omega))
    have hb := bst_le f k
    rw [bst, bst, ih, h _ (by omega), h (k + 1) (by omega)]
    have : f (bst f k) * m < f (k + 1) * m ↔ f (bst f k) < f (k + 1) := Nat.mul_lt_mul_right hm
    simp only [this]
def gLk (W : Nat → Nat) (s : Nat) : Nat → Nat → Nat
  | 0, c => W c
  | k + 1, c => gLk W s k c * (if c = bst (gLk W s k) 11 then 100 - s else 100)
def gFd (W : Nat → Nat) (s : Nat) : Nat → Nat
  | 0 => 0
  | k + 1 => gFd W s k * 100 + gLk W s k (bst (gLk W s k) 11) * s
def gWh (W : Nat → Nat) : Nat → Nat
  | 0 => 0
  | k + 1 => gWh W k + W k
theorem gLk_b {W : Nat → Nat} {s : Nat} (hW : ∀ c, c < 12 → W c ≤ 99) {c : Nat} (hc : c < 12) : ∀ k, gLk W s k c ≤ 99 * 100 ^ k
  | 0 => by rw [gLk]; have := hW c hc; omega
  | k + 1 => by
    have ih := gLk_b hW (s := s) hc k
    rw [gLk, Nat.pow_succ, ← Nat.mul_assoc]
    refine Nat.mul_le_mul ih ?_
    split <;> omega
theorem p100 : ∀ k, k < 7 → 99 * 100 ^ k < 9000000000000000 ∧ 0 < 100 ^ k := by decide
/-- the weights, the sureness, of both -/
theorem MW.sea {S : JS} (hm : MW S) : ∃ (W : Nat → Nat) (s : Nat), 1 ≤ s ∧ s ≤ 100 ∧ jI S 47 2 = nI s ∧ jI S 1 2 = nI s ∧ ∀ c, c < 12 → W c ≤ 99 ∧ jI S 47 (188 + c) = nI (W c) ∧ jI S 12 c = nI (W c) := by
  obtain ⟨s, s1, s2, s3⟩ := hm.1.2.2.1
  have e2 : jI S 1 2 = jI S 47 2 := hm.2.1.2.2.1
  have hw := hm.1.2.2.2.2.2.2.2.2
  have hv := hm.2.2.2.2.2.2.2
  refine ⟨fun c => (jI S 47 (188 + c)).toNatClampNeg, s, s1, s2, s3, e2.trans s3, fun c hc => ?_⟩
  obtain ⟨w, w1, w2⟩ := hw c hc
  have : (jI S 47 (188 + c)).toNatClampNeg = w := by rw [w2, nI_tn (by omega)]
  simp only [this]
  exact ⟨w1, w2, (hv c hc).trans w2⟩
theorem sX4_likeliest {S : JS} {Q : Int32 → JS → Prop} {f : Nat → Nat} (hs : jSh S) (hf : ∀ c, c < 12 → jJ S 40 c = lN (f c) ∧ f c < 9000000000000000) (h : Q (nI (bst f 11)) S) : wX4_likeliest 39 S Q := by
  unfold wX4_likeliest wX4_likeliest_4
  refine jLoop.cnt 11 (fun k q => q = (39, nI (bst f k), nI (k + 1), S)) 0 (by omega) ?_ rfl
  rintro k _ hk rfl
  have hb := bst_le f k
  unfold bX4_likeliest_4 wX4_likeliest_19
  simp only [shA_39, shA_40, shZ_40, shR_39_0, shr_39_0, hs, lg_cmp_le, ne_eq, not_false_eq_true, not_true_eq_false, reduceCtorEq, Nat.reduceEqDiff, forall_eq, true_and, and_true, true_implies, forall_const, implies_true, List.mem_cons, List.not_mem_nil, or_false, false_or, or_self, if_true, if_false, reduceIte, Nat.reduceAdd, Nat.reduceMul, Nat.reduceLT, false_implies, Decidable.not_not, bI_eq0, bI_eq1, upd_at, updL_at, Nat.succ_ne_zero, Int32.reduceToNatClampNeg, eq_self, i01, i10]
  rw [li_12, nI_le' (by omega) (by omega), nI_tn (by omega), nI_tn (by omega), (hf _ (show bst f k < 12 by omega)).1, nI_1]
  refine ⟨fun z => ?_, fun z => ?_⟩
  · rw [show k = 11 by omega]; exact h
  · obtain ⟨a1, a2⟩ := hf (k + 1) (by omega)
    obtain ⟨_, a3⟩ := hf (bst f k) (by omega)
    rw [a1, lN_le' a2 a3]
    refine ⟨nI_in2 (by omega) (by omega), nI_in2 (by omega) (by omega), fun z2 => ⟨by omega, ?_⟩, fun z2 => ⟨by omega, ?_⟩⟩
    · rw [bst, if_neg (by omega)]
    · rw [bst, if_pos (by omega)]
def lkOk (S : JS) (W : Nat → Nat) (s k : Nat) : Prop := (∀ c, c < 12 → jJ S 40 c = lN (gLk W s k c)) ∧ jJ S 39 1 = lN (gFd W s k) ∧ jJ S 39 2 = lN (gWh W 12 * 100 ^ k)
theorem sX4_lookOnce {S : JS} {Q : JS → Prop} {W : Nat → Nat} {s k : Nat} (hs : jSh S) (hW : ∀ c, c < 12 → W c ≤ 99) (hs1 : s ≤ 100) (hk : k < 6) (hL : lkOk S W s k) (h : ∀ S', jFr [39, 40] S S' → lkOk S' W s (k + 1) → jI S' 39 3 = nI (bst (gLk W s k) 11) → Q S') : wX4_lookOnce 39 (nI s) S Q := by
  obtain ⟨L1, L2, L3⟩ := hL
  have hp := (p100 k (by omega)).1
  have hb : ∀ c, c < 12 → gLk W s k c < 9000000000000000 := fun c hc => Nat.lt_of_le_of_lt (gLk_b hW hc k) hp
  unfold wX4_lookOnce
  refine ⟨shA_39 hs, sX4_likeliest hs (fun c hc => ⟨L1 c hc, hb c hc⟩) ?_⟩
  have hbl := bst_le (gLk W s k) 11
  generalize eb : bst (gLk W s k) 11 = B at hbl h ⊢
  simp only [shA_39, shA_40, shZ_40, shR_39_0, shr_39_0, hs, jN_uI, jN_uJ, jN_uR, jK_uI, jK_uJ, jK_uR, jZ_uI, jZ_uJ, jZ_uR, jR_uI, jR_uJ, jr_uI, jr_uJ, jI_uJ, jI_uR, jJ_uI, jJ_uR, jI_uI_eq, jI_uI_ne, jJ_uJ_eq, jJ_uJ_ne, jSh_uI, jSh_uJ, jA_uI, jA_uJ, jA_uR, jI_uIf_eq, jI_uIf_ne, jJ_uIf, jR_uIf, jr_uIf, jZ_uIf, jSh_uIf, jA_uIf, ne_eq, not_false_eq_true, not_true_eq_false, reduceCtorEq, Nat.reduceEqDiff, forall_eq, true_and, and_true, true_implies, forall_const, implies_true, List.mem_cons, List.not_mem_nil, or_false, false_or, or_self, if_true, if_false, reduceIte, Nat.reduceAdd, Nat.reduceMul, Nat.reduceLT, false_implies, Decidable.not_not, bI_eq0, bI_eq1, upd_at, updL_at, Nat.succ_ne_zero, Int32.reduceToNatClampNeg, eq_self, i01, i10]
  rw [nI_tn (by omega), L1 B (by omega), L2, nI_toL (by omega), show (100 : Int64) = lN 100 from rfl, lN_mul, lN_mul, lN_add]
  refine ⟨nI_in2 (by omega) (by omega), ?_⟩
  unfold wX4_lookOnce_21
  have f0 : jFr [39, 40] S (uJ (uI S 39 3 (nI B)) 39 1 (lN (gFd W s k * 100 + gLk W s k B * s))) := ((jFr.refl _ _).uI (by decide)).uJ (by decide)
  refine jLoop.cnt 12 (fun c q => ∃ S', q = (39, nI s, nI c, S') ∧ jFr [39, 40] S S' ∧ jI S' 39 3 = nI B ∧ jJ S' 39 1 = lN (gFd W s k * 100 + gLk W s k B * s) ∧ jJ S' 39 2 = lN (gWh W 12 * 100 ^ k) ∧ ∀ d, d < 12 → jJ S' 40 d = lN (if d < c then gLk W s (k + 1) d else gLk W s k d)) 0 (by omega) ?_ ⟨_, rfl, f0, by simp only [jN_uI, jN_uJ, jN_uR, jK_uI, jK_uJ, jK_uR, jZ_uI, jZ_uJ, jZ_uR, jR_uI, jR_uJ, jr_uI, jr_uJ, jI_uJ, jI_uR, jJ_uI, jJ_uR, jI_uI_eq, jI_uI_ne, jJ_uJ_eq, jJ_uJ_ne, jSh_uI, jSh_uJ, jA_uI, jA_uJ, jA_uR, jI_uIf_eq, jI_uIf_ne, jJ_uIf, jR_uIf, jr_uIf, jZ_uIf, jSh_uIf, jA_uIf, ne_eq, not_false_eq_true, not_true_eq_false, reduceCtorEq, Nat.reduceEqDiff, forall_eq, true_and, and_true, true_implies, forall_const, implies_true, List.mem_cons, List.not_mem_nil, or_false, false_or, or_self, if_true, if_false, reduceIte, Nat.reduceAdd, Nat.reduceMul, Nat.reduceLT, false_implies, Decidable.not_not, bI_eq0, bI_eq1, upd_at, updL_at, Nat.succ_ne_zero, Int32.reduceToNatClampNeg, eq_self, i01, i10], by simp only [jN_uI, jN_uJ, jN_uR, jK_uI, jK_uJ, jK_uR, jZ_uI, jZ_uJ, jZ_uR, jR_uI, jR_uJ, jr_uI, jr_uJ, jI_uJ, jI_uR, jJ_uI, jJ_uR, jI_uI_eq, jI_uI_ne, jJ_uJ_eq, jJ_uJ_ne, jSh_uI, jSh_uJ, jA_uI, jA_uJ, jA_uR, jI_uIf_eq, jI_uIf_ne, jJ_uIf, jR_uIf, jr_uIf, jZ_uIf, jSh_uIf, jA_uIf, ne_eq, not_false_eq_true, not_true_eq_false, reduceCtorEq, Nat.reduceEqDiff, forall_eq, true_and, and_true, true_implies, forall_const, implies_true, List.mem_cons, List.not_mem_nil, or_false, false_or, or_self, if_true, if_false, reduceIte, Nat.reduceAdd, Nat.reduceMul, Nat.reduceLT, false_implies, Decidable.not_not, bI_eq0, bI_eq1, upd_at, updL_at, Nat.succ_ne_zero, Int32.reduceToNatClampNeg, eq_self, i01, i10], by simp only [jN_uI, jN_uJ, jN_uR, jK_uI, jK_uJ, jK_uR, jZ_uI, jZ_uJ, jZ_uR, jR_uI, jR_uJ, jr_uI, jr_uJ, jI_uJ, jI_uR, jJ_uI, jJ_uR, jI_uI_eq, jI_uI_ne, jJ_uJ_eq, jJ_uJ_ne, jSh_uI, jSh_uJ, jA_uI, jA_uJ, jA_uR, jI_uIf_eq, jI_uIf_ne, jJ_uIf, jR_uIf, jr_uIf, jZ_uIf, jSh_uIf, jA_uIf, ne_eq, not_false_eq_true, not_true_eq_false, reduceCtorEq, Nat.reduceEqDiff, forall_eq, true_and, and_true, true_implies, forall_const, implies_true, List.mem_cons, List.not_mem_nil, or_false, false_or, or_self, if_true, if_false, reduceIte, Nat.reduceAdd, Nat.reduceMul, Nat.reduceLT, false_implies, Decidable.not_not, bI_eq0, bI_eq1, upd_at, updL_at, Nat.succ_ne_zero, Int32.reduceToNatClampNeg, eq_self, i01, i10]; exact L3, fun d hd => by simp only [jN_uI, jN_uJ, jN_uR, jK_uI, jK_uJ, jK_uR, jZ_uI, jZ_uJ, jZ_uR, jR_uI, jR_uJ, jr_uI, jr_uJ, jI_uJ, jI_uR, jJ_uI, jJ_uR, jI_uI_eq, jI_uI_ne, jJ_uJ_eq, jJ_uJ_ne, jSh_uI, jSh_uJ, jA_uI, jA_uJ, jA_uR, jI_uIf_eq, jI_uIf_ne, jJ_uIf, jR_uIf, jr_uIf, jZ_uIf, jSh_uIf, jA_uIf, ne_eq, not_false_eq_true, not_true_eq_false, reduceCtorEq, Nat.reduceEqDiff, forall_eq, true_and, and_true, true_implies, forall_const, implies_true, List.mem_cons, List.not_mem_nil, or_false, false_or, or_self, if_true, if_false, reduceIte, Nat.reduceAdd, Nat.reduceMul, Nat.reduceLT, false_implies, Decidable.not_not, bI_eq0, bI_eq1, upd_at, updL_at, Nat.succ_ne_zero, Int32.reduceToNatClampNeg, eq_self, i01, i10]; rw [if_neg (Nat.not_lt_zero _)]; exact L1 d hd⟩
  rintro c _ hc ⟨S1, rfl, f1, j1, j2, j3, j4⟩
  have hs1' := f1.sh.mpr hs
  unfold bX4_lookOnce_21 wX4_lookOnce_39
  simp only [shA_39, shA_40, shZ_40, shR_39_0, shr_39_0, hs1', j1, j3, jN_uI, jN_uJ, jN_uR, jK_uI, jK_uJ, jK_uR, jZ_uI, jZ_uJ, jZ_uR, jR_uI, jR_uJ, jr_uI, jr_uJ, jI_uJ, jI_uR, jJ_uI, jJ_uR, jI_uI_eq, jI_uI_ne, jJ_uJ_eq, jJ_uJ_ne, jSh_uI, jSh_uJ, jA_uI, jA_uJ, jA_uR, jI_uIf_eq, jI_uIf_ne, jJ_uIf, jR_uIf, jr_uIf, jZ_uIf, jSh_uIf, jA_uIf, ne_eq, not_false_eq_true, not_true_eq_false, reduceCtorEq, Nat.reduceEqDiff, forall_eq, true_and, and_true, true_implies, forall_const, implies_true, List.mem_cons, List.not_mem_nil, or_false, false_or, or_self, if_true, if_false, reduceIte, Nat.reduceAdd, Nat.reduceMul, Nat.reduceLT, false_implies, Decidable.not_not, bI_eq0, bI_eq1, upd_at, updL_at, Nat.succ_ne_zero, Int32.reduceToNatClampNeg, eq_self, i01, i10]
  rw [li_12, nI_le' (by omega) (by omega), li_100, nI_sub hs1, nI_toL (by omega), nI_tn (by omega), show (100 : Int64) = lN 100 from rfl, lN_mul, nI_1]
  refine ⟨fun z => h _ (f1.uJ (by decide)) ⟨fun d hd => ?_, ?_, ?_⟩ (by simp only [jN_uI, jN_uJ, jN_uR, jK_uI, jK_uJ, jK_uR, jZ_uI, jZ_uJ, jZ_uR, jR_uI, jR_uJ, jr_uI, jr_uJ, jI_uJ, jI_uR, jJ_uI, jJ_uR, jI_uI_eq, jI_uI_ne, jJ_uJ_eq, jJ_uJ_ne, jSh_uI, jSh_uJ, jA_uI, jA_uJ, jA_uR, jI_uIf_eq, jI_uIf_ne, jJ_uIf, jR_uIf, jr_uIf, jZ_uIf, jSh_uIf, jA_uIf, ne_eq, not_false_eq_true, not_true_eq_false, reduceCtorEq, Nat.reduceEqDiff, forall_eq, true_and, and_true, true_implies, forall_const, implies_true, List.mem_cons, List.not_mem_nil, or_false, false_or, or_self, if_true, if_false, reduceIte, Nat.reduceAdd, Nat.reduceMul, Nat.reduceLT, false_implies, Decidable.not_not, bI_eq0, bI_eq1, upd_at, updL_at, Nat.succ_ne_zero, Int32.reduceToNatClampNeg, eq_self, i01, i10]; exact j1), fun z => ?_⟩
  · simp only [jN_uI, jN_uJ, jN_uR, jK_uI, jK_uJ, jK_uR, jZ_uI, jZ_uJ, jZ_uR, jR_uI, jR_uJ, jr_uI, jr_uJ, jI_uJ, jI_uR, jJ_uI, jJ_uR, jI_uI_eq, jI_uI_ne, jJ_uJ_eq, jJ_uJ_ne, jSh_uI, jSh_uJ, jA_uI, jA_uJ, jA_uR, jI_uIf_eq, jI_uIf_ne, jJ_uIf, jR_uIf, jr_uIf, jZ_uIf, jSh_uIf, jA_uIf, ne_eq, not_false_eq_true, not_true_eq_false, reduceCtorEq, Nat.reduceEqDiff, forall_eq, true_and, and_true, true_implies, forall_const, implies_true, List.mem_cons, List.not_mem_nil, or_false, false_or, or_self, if_true, if_false, reduceIte, Nat.reduceAdd, Nat.reduceMul, Nat.reduceLT, false_implies, Decidable.not_not, bI_eq0, bI_eq1, upd_at, updL_at, Nat.succ_ne_zero, Int32.reduceToNatClampNeg, eq_self, i01, i10]; rw [j4 d hd, if_pos (by omega)]
  · simp only [jN_uI, jN_uJ, jN_uR, jK_uI, jK_uJ, jK_uR, jZ_uI, jZ_uJ, jZ_uR, jR_uI, jR_uJ, jr_uI, jr_uJ, jI_uJ, jI_uR, jJ_uI, jJ_uR, jI_uI_eq, jI_uI_ne, jJ_uJ_eq, jJ_uJ_ne, jSh_uI, jSh_uJ, jA_uI, jA_uJ, jA_uR, jI_uIf_eq, jI_uIf_ne, jJ_uIf, jR_uIf, jr_uIf, jZ_uIf, jSh_uIf, jA_uIf, ne_eq, not_false_eq_true, not_true_eq_false, reduceCtorEq, Nat.reduceEqDiff, forall_eq, true_and, and_true, true_implies, forall_const, implies_true, List.mem_cons, List.not_mem_nil, or_false, false_or, or_self, if_true, if_false, reduceIte, Nat.reduceAdd, Nat.reduceMul, Nat.reduceLT, false_implies, Decidable.not_not, bI_eq0, bI_eq1, upd_at, updL_at, Nat.succ_ne_zero, Int32.reduceToNatClampNeg, eq_self, i01, i10]; rw [j2, gFd, eb]
  · simp only [jN_uI, jN_uJ, jN_uR, jK_uI, jK_uJ, jK_uR, jZ_uI, jZ_uJ, jZ_uR, jR_uI, jR_uJ, jr_uI, jr_uJ, jI_uJ, jI_uR, jJ_uI, jJ_uR, jI_uI_eq, jI_uI_ne, jJ_uJ_eq, jJ_uJ_ne, jSh_uI, jSh_uJ, jA_uI, jA_uJ, jA_uR, jI_uIf_eq, jI_uIf_ne, jJ_uIf, jR_uIf, jr_uIf, jZ_uIf, jSh_uIf, jA_uIf, ne_eq, not_false_eq_true, not_true_eq_false, reduceCtorEq, Nat.reduceEqDiff, forall_eq, true_and, and_true, true_implies, forall_const, implies_true, List.mem_cons, List.not_mem_nil, or_false, false_or, or_self, if_true, if_false, reduceIte, Nat.reduceAdd, Nat.reduceMul, Nat.reduceLT, false_implies, Decidable.not_not, bI_eq0, bI_eq1, upd_at, updL_at, Nat.succ_ne_zero, Int32.reduceToNatClampNeg, eq_self, i01, i10]; rw [Nat.pow_succ, Nat.mul_assoc]
  · have e4 := j4 c (by omega)
    rw [if_neg (Nat.lt_irrefl _)] at e4
    rw [e4, lN_mul, lN_mul, nI_eq' (by omega) (by omega)]
    have fin : ∀ v, v = gLk W s (k + 1) c → (c < 12 ∧ ∃ S', (39, nI s, nI (c + 1), uJ S1 40 c (lN v)) = (39, nI s, nI (c + 1), S') ∧ jFr [39, 40] S S' ∧ jI S' 39 3 = nI B ∧ jJ S' 39 1 = lN (gFd W s k * 100 + gLk W s k B * s) ∧ jJ S' 39 2 = lN (gWh W 12 * 100 ^ k) ∧ ∀ d, d < 12 → jJ S' 40 d = lN (if d < c + 1 then gLk W s (k + 1) d else gLk W s k d)) := by
      intro v hv
      refine ⟨by omega, _, rfl, f1.uJ (by decide), by simp only [jN_uI, jN_uJ, jN_uR, jK_uI, jK_uJ, jK_uR, jZ_uI, jZ_uJ, jZ_uR, jR_uI, jR_uJ, jr_uI, jr_uJ, jI_uJ, jI_uR, jJ_uI, jJ_uR, jI_uI_eq, jI_uI_ne, jJ_uJ_eq, jJ_uJ_ne, jSh_uI, jSh_uJ, jA_uI, jA_uJ, jA_uR, jI_uIf_eq, jI_uIf_ne, jJ_uIf, jR_uIf, jr_uIf, jZ_uIf, jSh_uIf, jA_uIf, ne_eq, not_false_eq_true, not_true_eq_false, reduceCtorEq, Nat.reduceEqDiff, forall_eq, true_and, and_true, true_implies, forall_const, implies_true, List.mem_cons, List.not_mem_nil, or_false, false_or, or_self, if_true, if_false, reduceIte, Nat.reduceAdd, Nat.reduceMul, Nat.reduceLT, false_implies, Decidable.not_not, bI_eq0, bI_eq1, upd_at, updL_at, Nat.succ_ne_zero, Int32.reduceToNatClampNeg, eq_self, i01, i10]; exact j1, by simp only [jN_uI, jN_uJ, jN_uR, jK_uI, jK_uJ, jK_uR, jZ_uI, jZ_uJ, jZ_uR, jR_uI, jR_uJ, jr_uI, jr_uJ, jI_uJ, jI_uR, jJ_uI, jJ_uR, jI_uI_eq, jI_uI_ne, jJ_uJ_eq, jJ_uJ_ne, jSh_uI, jSh_uJ, jA_uI, jA_uJ, jA_uR, jI_uIf_eq, jI_uIf_ne, jJ_uIf, jR_uIf, jr_uIf, jZ_uIf, jSh_uIf, jA_uIf, ne_eq, not_false_eq_true, not_true_eq_false, reduceCtorEq, Nat.reduceEqDiff, forall_eq, true_and, and_true, true_implies, forall_const, implies_true, List.mem_cons, List.not_mem_nil, or_false, false_or, or_self, if_true, if_false, reduceIte, Nat.reduceAdd, Nat.reduceMul, Nat.reduceLT, false_implies, Decidable.not_not, bI_eq0, bI_eq1, upd_at, updL_at, Nat.succ_ne_zero, Int32.reduceToNatClampNeg, eq_self, i01, i10]; exact j2, by simp only [jN_uI, jN_uJ, jN_uR, jK_uI, jK_uJ, jK_uR, jZ_uI, jZ_uJ, jZ_uR, jR_uI, jR_uJ, jr_uI, jr_uJ, jI_uJ, jI_uR, jJ_uI, jJ_uR, jI_uI_eq, jI_uI_ne, jJ_uJ_eq, jJ_uJ_ne, jSh_uI, jSh_uJ, jA_uI, jA_uJ, jA_uR, jI_uIf_eq, jI_uIf_ne, jJ_uIf, jR_uIf, jr_uIf, jZ_uIf, jSh_uIf, jA_uIf, ne_eq, not_false_eq_true, not_true_eq_false, reduceCtorEq, Nat.reduceEqDiff, forall_eq, true_and, and_true, true_implies, forall_const, implies_true, List.mem_cons, List.not_mem_nil, or_false, false_or, or_self, if_true, if_false, reduceIte, Nat.reduceAdd, Nat.reduceMul, Nat.reduceLT, false_implies, Decidable.not_not, bI_eq0, bI_eq1, upd_at, updL_at, Nat.succ_ne_zero, Int32.reduceToNatClampNeg, eq_self, i01, i10]; exact j3, fun d hd => ?_⟩
      simp only [jN_uI, jN_uJ, jN_uR, jK_uI, jK_uJ, jK_uR, jZ_uI, jZ_uJ, jZ_uR, jR_uI, jR_uJ, jr_uI, jr_uJ, jI_uJ, jI_uR, jJ_uI, jJ_uR, jI_uI_eq, jI_uI_ne, jJ_uJ_eq, jJ_uJ_ne, jSh_uI, jSh_uJ, jA_uI, jA_uJ, jA_uR, jI_uIf_eq, jI_uIf_ne, jJ_uIf, jR_uIf, jr_uIf, jZ_uIf, jSh_uIf, jA_uIf, ne_eq, not_false_eq_true, not_true_eq_false, reduceCtorEq, Nat.reduceEqDiff, forall_eq, true_and, and_true, true_implies, forall_const, implies_true, List.mem_cons, List.not_mem_nil, or_false, false_or, or_self, if_true, if_false, reduceIte, Nat.reduceAdd, Nat.reduceMul, Nat.reduceLT, false_implies, Decidable.not_not, bI_eq0, bI_eq1, upd_at, updL_at, Nat.succ_ne_zero, Int32.reduceToNatClampNeg, eq_self, i01, i10]
      by_cases e : d = c
      · subst e; rw [if_pos rfl, if_pos (by omega), hv]
      · rw [if_neg e, j4 d hd]
        rcases Nat.lt_or_ge d c with l | l
        · rw [if_pos l, if_pos (by omega)]
        · rw [if_neg (by omega), if_neg (by omega)]
    refine ⟨nI_in2 (by omega) (by omega), fun z2 => ⟨nI_in2 (by omega) (by omega), fin _ ?_⟩, fun z2 => ⟨nI_in2 (by omega) (by omega), fin _ ?_⟩⟩
    · rw [gLk, eb, if_neg z2]
    · rw [gLk, eb, if_pos z2]
theorem sX4_lookTimes {S : JS} {Q : JS → Prop} {W : Nat → Nat} {s n : Nat} (hs : jSh S) (hW : ∀ c, c < 12 → W c ≤ 99 ∧ jI S 12 c = nI (W c)) (hs1 : s ≤ 100) (hse : jI S 1 2 = nI s) (hn : n ≤ 6) (h : ∀ S', jFr [39, 40] S S' → lkOk S' W s n → (n = 0 → jI S' 39 3 = -1) → (∀ k, n = k + 1 → jI S' 39 3 = nI (bst (gLk W s k) 11)) → Q S') : wX4_lookTimes 39 1 (nI n) S Q := by
  unfold wX4_lookTimes
  simp only [shA_39, shR_39_0, shr_39_0, hs, jN_uI, jN_uJ, jN_uR, jK_uI, jK_uJ, jK_uR, jZ_uI, jZ_uJ, jZ_uR, jR_uI, jR_uJ, jr_uI, jr_uJ, jI_uJ, jI_uR, jJ_uI, jJ_uR, jI_uI_eq, jI_uI_ne, jJ_uJ_eq, jJ_uJ_ne, jSh_uI, jSh_uJ, jA_uI, jA_uJ, jA_uR, jI_uIf_eq, jI_uIf_ne, jJ_uIf, jR_uIf, jr_uIf, jZ_uIf, jSh_uIf, jA_uIf, ne_eq, not_false_eq_true, not_true_eq_false, reduceCtorEq, Nat.reduceEqDiff, forall_eq, true_and, and_true, true_implies, forall_const, implies_true, List.mem_cons, List.not_mem_nil, or_false, false_or, or_self, if_true, if_false, reduceIte, Nat.reduceAdd, Nat.reduceMul, Nat.reduceLT, false_implies, Decidable.not_not, bI_eq0, bI_eq1, upd_at, updL_at, Nat.succ_ne_zero, Int32.reduceToNatClampNeg, eq_self, i01, i10]
  have f0 : jFr [39, 40] S (uI (uJ (uJ S 39 1 0) 39 2 0) 39 3 (-1)) := (((jFr.refl _ _).uJ (by decide)).uJ (by decide)).uI (by decide)
  unfold wX4_lookTimes_11
  refine jLoop.cnt 12 (fun c q => ∃ S', q = (39, 1, nI n, nI c, S') ∧ jFr [39, 40] S S' ∧ jI S' 39 3 = -1 ∧ jJ S' 39 1 = lN 0 ∧ jJ S' 39 2 = lN (gWh W c) ∧ ∀ d, d < c → jJ S' 40 d = lN (W d)) 0 (by omega) ?_ ⟨_, rfl, f0, by simp only [jN_uI, jN_uJ, jN_uR, jK_uI, jK_uJ, jK_uR, jZ_uI, jZ_uJ, jZ_uR, jR_uI, jR_uJ, jr_uI, jr_uJ, jI_uJ, jI_uR, jJ_uI, jJ_uR, jI_uI_eq, jI_uI_ne, jJ_uJ_eq, jJ_uJ_ne, jSh_uI, jSh_uJ, jA_uI, jA_uJ, jA_uR, jI_uIf_eq, jI_uIf_ne, jJ_uIf, jR_uIf, jr_uIf, jZ_uIf, jSh_uIf, jA_uIf, ne_eq, not_false_eq_true, not_true_eq_false, reduceCtorEq, Nat.reduceEqDiff, forall_eq, true_and, and_true, true_implies, forall_const, implies_true, List.mem_cons, List.not_mem_nil, or_false, false_or, or_self, if_true, if_false, reduceIte, Nat.reduceAdd, Nat.reduceMul, Nat.reduceLT, false_implies, Decidable.not_not, bI_eq0, bI_eq1, upd_at, updL_at, Nat.succ_ne_zero, Int32.reduceToNatClampNeg, eq_self, i01, i10], by simp only [jN_uI, jN_uJ, jN_uR, jK_uI, jK_uJ, jK_uR, jZ_uI, jZ_uJ, jZ_uR, jR_uI, jR_uJ, jr_uI, jr_uJ, jI_uJ, jI_uR, jJ_uI, jJ_uR, jI_uI_eq, jI_uI_ne, jJ_uJ_eq, jJ_uJ_ne, jSh_uI, jSh_uJ, jA_uI, jA_uJ, jA_uR, jI_uIf_eq, jI_uIf_ne, jJ_uIf, jR_uIf, jr_uIf, jZ_uIf, jSh_uIf, jA_uIf, ne_eq, not_false_eq_true, not_true_eq_false, reduceCtorEq, Nat.reduceEqDiff, forall_eq, true_and, and_true, true_implies, forall_const, implies_true, List.mem_cons, List.not_mem_nil, or_false, false_or, or_self, if_true, if_false, reduceIte, Nat.reduceAdd, Nat.reduceMul, Nat.reduceLT, false_implies, Decidable.not_not, bI_eq0, bI_eq1, upd_at, updL_at, Nat.succ_ne_zero, Int32.reduceToNatClampNeg, eq_self, i01, i10]; rfl, by simp only [jN_uI, jN_uJ, jN_uR, jK_uI, jK_uJ, jK_uR, jZ_uI, jZ_uJ, jZ_uR, jR_uI, jR_uJ, jr_uI, jr_uJ, jI_uJ, jI_uR, jJ_uI, jJ_uR, jI_uI_eq, jI_uI_ne, jJ_uJ_eq, jJ_uJ_ne, jSh_uI, jSh_uJ, jA_uI, jA_uJ, jA_uR, jI_uIf_eq, jI_uIf_ne, jJ_uIf, jR_uIf, jr_uIf, jZ_uIf, jSh_uIf, jA_uIf, ne_eq, not_false_eq_true, not_true_eq_false, reduceCtorEq, Nat.reduceEqDiff, forall_eq, true_and, and_true, true_implies, forall_const, implies_true, List.mem_cons, List.not_mem_nil, or_false, false_or, or_self, if_true, if_false, reduceIte, Nat.reduceAdd, Nat.reduceMul, Nat.reduceLT, false_implies, Decidable.not_not, bI_eq0, bI_eq1, upd_at, updL_at, Nat.succ_ne_zero, Int32.reduceToNatClampNeg, eq_self, i01, i10]; rfl, fun d q => absurd q (Nat.not_lt_zero _)⟩
  rintro c _ hc ⟨S1, rfl, f1, j1, j2, j3, j4⟩
  have hs1' := f1.sh.mpr hs
  unfold bX4_lookTimes_11
  simp only [shA_1, shA_12, shZ_12, shA_39, shA_40, shZ_40, shR_1_4, shr_1_4, shR_1_5, shr_1_5, shR_1_6, shr_1_6, shR_1_9, shr_1_9, shR_1_11, shr_1_11, shR_39_0, shr_39_0, hs1', f1.I 12 (by decide), j3, nI_1, jN_uI, jN_uJ, jN_uR, jK_uI, jK_uJ, jK_uR, jZ_uI, jZ_uJ, jZ_uR, jR_uI, jR_uJ, jr_uI, jr_uJ, jI_uJ, jI_uR, jJ_uI, jJ_uR, jI_uI_eq, jI_uI_ne, jJ_uJ_eq, jJ_uJ_ne, jSh_uI, jSh_uJ, jA_uI, jA_uJ, jA_uR, jI_uIf_eq, jI_uIf_ne, jJ_uIf, jR_uIf, jr_uIf, jZ_uIf, jSh_uIf, jA_uIf, ne_eq, not_false_eq_true, not_true_eq_false, reduceCtorEq, Nat.reduceEqDiff, forall_eq, true_and, and_true, true_implies, forall_const, implies_true, List.mem_cons, List.not_mem_nil, or_false, false_or, or_self, if_true, if_false, reduceIte, Nat.reduceAdd, Nat.reduceMul, Nat.reduceLT, false_implies, Decidable.not_not, bI_eq0, bI_eq1, upd_at, updL_at, Nat.succ_ne_zero, Int32.reduceToNatClampNeg, eq_self, i01, i10]
  rw [li_12, nI_le' (by omega) (by omega), nI_tn (by omega)]
  refine ⟨fun z => ?_, fun z => ?_⟩
  · have : c = 12 := by omega
    subst this
    unfold wX4_lookTimes_37
    refine jLoop.cnt n (fun k q => ∃ S', q = (39, 1, nI n, nI k, S') ∧ jFr [39, 40] S S' ∧ lkOk S' W s k ∧ (k = 0 → jI S' 39 3 = -1) ∧ (∀ m, k = m + 1 → jI S' 39 3 = nI (bst (gLk W s m) 11))) 0 (by omega) ?_ ⟨S1, rfl, f1, ⟨fun d hd => j4 d hd, j2, by rw [j3]; simp⟩, fun _ => j1, fun m e => by omega⟩
    rintro k _ hk ⟨S2, rfl, f2, l2, q1, q2⟩
    have hs2 := f2.sh.mpr hs
    unfold bX4_lookTimes_37
    simp only
    rw [nI_le' (by omega) (by omega), f2.I 1 (by decide), hse]
    refine ⟨fun z => ?_, fun z => ⟨shA_1 hs2, shA_39 hs2, sX4_lookOnce hs2 (fun d hd => (hW d hd).1) hs1 (by omega) l2 (fun S3 f3 l3 q3 => nm_r (nI_1 k) ⟨by omega, S3, rfl, f2.tr f3, l3, fun e => by omega, fun m e => ?_⟩)⟩⟩
    · have : k = n := by omega
      subst this; exact h S2 f2 l2 q1 q2
    · have : m = k := by omega
      subst this; exact q3
  · obtain ⟨w1, w2⟩ := hW c (by omega)
    rw [w2, nI_toL (by omega), lN_add]
    refine ⟨nI_in2 (by omega) (by omega), nI_in2 (by omega) (by omega), nI_in2 (by omega) (by omega), by omega, _, rfl, (f1.uJ (by decide)).uJ (by decide), by simp only [jN_uI, jN_uJ, jN_uR, jK_uI, jK_uJ, jK_uR, jZ_uI, jZ_uJ, jZ_uR, jR_uI, jR_uJ, jr_uI, jr_uJ, jI_uJ, jI_uR, jJ_uI, jJ_uR, jI_uI_eq, jI_uI_ne, jJ_uJ_eq, jJ_uJ_ne, jSh_uI, jSh_uJ, jA_uI, jA_uJ, jA_uR, jI_uIf_eq, jI_uIf_ne, jJ_uIf, jR_uIf, jr_uIf, jZ_uIf, jSh_uIf, jA_uIf, ne_eq, not_false_eq_true, not_true_eq_false, reduceCtorEq, Nat.reduceEqDiff, forall_eq, true_and, and_true, true_implies, forall_const, implies_true, List.mem_cons, List.not_mem_nil, or_false, false_or, or_self, if_true, if_false, reduceIte, Nat.reduceAdd, Nat.reduceMul, Nat.reduceLT, false_implies, Decidable.not_not, bI_eq0, bI_eq1, upd_at, updL_at, Nat.succ_ne_zero, Int32.reduceToNatClampNeg, eq_self, i01, i10]; exact j1, by simp only [jN_uI, jN_uJ, jN_uR, jK_uI, jK_uJ, jK_uR, jZ_uI, jZ_uJ, jZ_uR, jR_uI, jR_uJ, jr_uI, jr_uJ, jI_uJ, jI_uR, jJ_uI, jJ_uR, jI_uI_eq, jI_uI_ne, jJ_uJ_eq, jJ_uJ_ne, jSh_uI, jSh_uJ, jA_uI, jA_uJ, jA_uR, jI_uIf_eq, jI_uIf_ne, jJ_uIf, jR_uIf, jr_uIf, jZ_uIf, jSh_uIf, jA_uIf, ne_eq, not_false_eq_true, not_true_eq_false, reduceCtorEq, Nat.reduceEqDiff, forall_eq, true_and, and_true, true_implies, forall_const, implies_true, List.mem_cons, List.not_mem_nil, or_false, false_or, or_self, if_true, if_false, reduceIte, Nat.reduceAdd, Nat.reduceMul, Nat.reduceLT, false_implies, Decidable.not_not, bI_eq0, bI_eq1, upd_at, updL_at, Nat.succ_ne_zero, Int32.reduceToNatClampNeg, eq_self, i01, i10]; exact j2, by simp only [jN_uI, jN_uJ, jN_uR, jK_uI, jK_uJ, jK_uR, jZ_uI, jZ_uJ, jZ_uR, jR_uI, jR_uJ, jr_uI, jr_uJ, jI_uJ, jI_uR, jJ_uI, jJ_uR, jI_uI_eq, jI_uI_ne, jJ_uJ_eq, jJ_uJ_ne, jSh_uI, jSh_uJ, jA_uI, jA_uJ, jA_uR, jI_uIf_eq, jI_uIf_ne, jJ_uIf, jR_uIf, jr_uIf, jZ_uIf, jSh_uIf, jA_uIf, ne_eq, not_false_eq_true, not_true_eq_false, reduceCtorEq, Nat.reduceEqDiff, forall_eq, true_and, and_true, true_implies, forall_const, implies_true, List.mem_cons, List.not_mem_nil, or_false, false_or, or_self, if_true, if_false, reduceIte, Nat.reduceAdd, Nat.reduceMul, Nat.reduceLT, false_implies, Decidable.not_not, bI_eq0, bI_eq1, upd_at, updL_at, Nat.succ_ne_zero, Int32.reduceToNatClampNeg, eq_self, i01, i10]; rw [gWh], fun d hd => ?_⟩
    simp only [jN_uI, jN_uJ, jN_uR, jK_uI, jK_uJ, jK_uR, jZ_uI, jZ_uJ, jZ_uR, jR_uI, jR_uJ, jr_uI, jr_uJ, jI_uJ, jI_uR, jJ_uI, jJ_uR, jI_uI_eq, jI_uI_ne, jJ_uJ_eq, jJ_uJ_ne, jSh_uI, jSh_uJ, jA_uI, jA_uJ, jA_uR, jI_uIf_eq, jI_uIf_ne, jJ_uIf, jR_uIf, jr_uIf, jZ_uIf, jSh_uIf, jA_uIf, ne_eq, not_false_eq_true, not_true_eq_false, reduceCtorEq, Nat.reduceEqDiff, forall_eq, true_and, and_true, true_implies, forall_const, implies_true, List.mem_cons, List.not_mem_nil, or_false, false_or, or_self, if_true, if_false, reduceIte, Nat.reduceAdd, Nat.reduceMul, Nat.reduceLT, false_implies, Decidable.not_not, bI_eq0, bI_eq1, upd_at, updL_at, Nat.succ_ne_zero, Int32.reduceToNatClampNeg, eq_self, i01, i10]
    split
    · rename_i e; rw [e]
    · exact j4 d (by omega)
