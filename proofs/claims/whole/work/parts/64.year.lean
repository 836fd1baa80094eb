/-! A YEAR -/
noncomputable def gWl (row : Nat → Int32) (n a p : Nat) : Nat := pick (gSl row n a p) ((gTell row 1 (nI a) (nI n) (nI p)).toNatClampNeg) 0
theorem gWl_t {row : Nat → Int32} {n a p : Nat} (h : gSl row n a p) : gTell row 1 (nI a) (nI n) (nI p) = nI (gWl row n a p) ∧ gWl row n a p ≤ 99 := by
  obtain ⟨k, k1, k2⟩ := gTell_n row 1 (nI a) (nI n) (nI p)
  unfold gWl
  rw [pick_t h, k2, nI_tn (by omega)]; exact ⟨rfl, k1⟩
theorem gWl_f {row : Nat → Int32} {n a p : Nat} (h : ¬ gSl row n a p) : gWl row n a p = 0 := by unfold gWl; rw [pick_f h]
theorem gWl_b (row : Nat → Int32) (n a p : Nat) : gWl row n a p ≤ 99 := by
  by_cases h : gSl row n a p
  · exact (gWl_t h).2
  · rw [gWl_f h]; omega
noncomputable def gWt (row : Nat → Int32) (n a : Nat) : Nat → Nat
  | 0 => 0
  | k + 1 => gWt row n a k + gWl row n a k
theorem gWt_b {row : Nat → Int32} {n a : Nat} : ∀ k, gWt row n a k ≤ 99 * k
  | 0 => Nat.le_refl _
  | k + 1 => by have := gWt_b (row := row) (n := n) (a := a) k; have := gWl_b row n a k; rw [gWt]; omega
theorem gWt_hi {row : Nat → Int32} {n a : Nat} : ∀ k, gWt row n a (gR row + k) = gWt row n a (gR row)
  | 0 => rfl
  | k + 1 => by
    rw [show gR row + (k + 1) = gR row + k + 1 by omega, gWt, gWt_hi k, gWl_f (fun z => by have := z.2.1; omega)]; rfl
theorem gWt_mono {row : Nat → Int32} {n a j : Nat} : ∀ k, gWt row n a j ≤ gWt row n a (j + k)
  | 0 => Nat.le_refl _
  | k + 1 => by have := gWt_mono (row := row) (n := n) (a := a) (j := j) k; rw [show j + (k + 1) = j + k + 1 by omega, gWt]; omega
/-- the next rock by a draw -/
def nxP (row : Nat → Int32) (n a t q : Nat) : Prop := (IsLow (fun p => t < gWt row n a (p + 1)) q ∧ q < gR row) ∨ (gWt row n a (gR row) ≤ t ∧ q = a)
theorem nxP.uniq {row : Nat → Int32} {n a t q q' : Nat} (h : nxP row n a t q) (h' : nxP row n a t q') : q = q' := by
  have key : ∀ p, IsLow (fun p => t < gWt row n a (p + 1)) p → p < gR row → gWt row n a (gR row) ≤ t → False := by
    intro p h1 h2 h3
    have a1 : t < gWt row n a (p + 1) := h1.1
    have a2 := gWt_mono (row := row) (n := n) (a := a) (j := p + 1) (gR row - (p + 1))
    rw [show p + 1 + (gR row - (p + 1)) = gR row by omega] at a2
    omega
  rcases h with ⟨h1, h2⟩ | ⟨h1, h2⟩ <;> rcases h' with ⟨g1, g2⟩ | ⟨g1, g2⟩
  · exact h1.uniq g1
  · exact (key q h1 h2 g1).elim
  · exact (key q' g1 g2 h1).elim
  · omega
def gDr (s : Nat) : Nat := (s * 1103 + 12345) % 1000003
def gYk (row : Nat → Int32) (seed r0 : Nat) : Nat → Nat → Nat → Prop
  | 0, s, v => s = seed ∧ v = r0
  | k + 1, s, v => ∃ s0 v0, gYk row seed r0 k s0 v0 ∧ s = gDr s0 ∧ nxP row k v0 (gDr s0 % (10 + gWt row k v0 (gR row))) v
theorem gYk_uniq {row : Nat → Int32} {seed r0 : Nat} : ∀ {k s v s' v' : Nat}, gYk row seed r0 k s v → gYk row seed r0 k s' v' → s = s' ∧ v = v'
  | 0, _, _, _, _, ⟨a, b⟩, ⟨c, d⟩ => ⟨a.trans c.symm, b.trans d.symm⟩
  | _ + 1, _, _, _, _, ⟨s0, v0, a, b, c⟩, ⟨s1, v1, a', b', c'⟩ => by
    obtain ⟨rfl, rfl⟩ := gYk_uniq a a'
    exact ⟨b.trans b'.symm, c.uniq c'⟩
theorem gYk_lt {row : Nat → Int32} {seed r0 : Nat} (h0 : r0 < gR row) (h1 : seed ≤ 1000003) : ∀ {k s v : Nat}, gYk row seed r0 k s v → v < gR row ∧ s ≤ 1000003
  | 0, _, _, ⟨a, b⟩ => ⟨b ▸ h0, a ▸ h1⟩
  | _ + 1, _, _, ⟨s0, v0, a, b, c⟩ => by
    refine ⟨?_, by rw [b]; unfold gDr; omega⟩
    rcases c with ⟨_, c⟩ | ⟨_, c⟩
    · exact c
    · rw [c]; exact (gYk_lt h0 h1 a).1
theorem dr_l {s : Nat} (h : s ≤ 1000003) : lN s * 1103 + 12345 - (lN s * 1103 + 12345) / 1000003 * 1000003 = lN (gDr s) := by
  have e : lN s * 1103 + 12345 = lN (s * 1103 + 12345) := by
    rw [show (1103 : Int64) = lN 1103 from rfl, show (12345 : Int64) = lN 12345 from rfl, lN_mul, lN_add]
  rw [e, show (1000003 : Int64) = lN 1000003 from rfl]
  exact pk_lRem (by omega) (by omega) (by omega)
theorem dr_t {s w : Nat} (h : s ≤ 1000003) (h1 : 0 < w) (h2 : w < 1000) : (lN s - lN s / (nI w).toInt64 * (nI w).toInt64).toInt32 = nI (s % w) := by
  rw [nI_toL (by omega), pk_lRem (by omega) h1 (by omega), lN_i]
theorem sX10_nextRock {S : JS} {Q : Int32 → JS → Prop} {a n s : Nat} (hs : jSh S) (hm : MW S) (hB : BC S) (ha : a < gR (jI S 47)) (hn : n < 59) (hse : jJ S 41 3 = lN s) (hs2 : s ≤ 1000003) (h : ∀ S' q, jFr [24, 25, 26, 27, 41, 43] S S' → jFk 41 [3] S S' → BC S' → jJ S' 41 3 = lN (gDr s) → nxP (jI S 47) n a (gDr s % (10 + gWt (jI S 47) n a (gR (jI S 47)))) q → Q (nI q) S') : wX10_nextRock 41 1 23 (nI a) (nI n) S Q := by
  obtain ⟨R1, R2, R3⟩ := hm.1.1
  unfold wX10_nextRock
  refine ⟨shA_23 hs, sX1_learnFrom hs hm hB (by omega) (by omega) (fun S1 f1 B1 _ l1 => ?_)⟩
  have hs1 := f1.sh.mpr hs
  refine ⟨shA_23 hs1, sX1_sails hs1 (by omega) (by omega) ?_⟩
  generalize jI S1 27 (n * 9 + a) = x at l1 ⊢
  have k1 : jFk 41 [3] S S1 := jFk.of f1 (by decide)
  have j1 : jJ S1 41 3 = lN s := by rw [f1.J 41 (by decide)]; exact hse
  have f1 : jFr [24, 25, 26, 27, 41, 43] S S1 := f1.mono (by decide)
  unfold wX10_nextRock_14
  refine jLoop.cnt 9 (fun c q => ∃ S', q = (41, 1, 23, nI a, nI n, x, nI (10 + gWt (jI S 47) n a c), nI c, S') ∧ jFr [24, 25, 26, 27, 41, 43] S S' ∧ jFk 41 [3] S S' ∧ BC S' ∧ jJ S' 41 3 = lN s ∧ ∀ p, p < c → jI S' 43 p = nI (gWl (jI S 47) n a p)) 0 (by omega) ?_ ⟨S1, rfl, f1, k1, B1, j1, fun p q => absurd q (Nat.not_lt_zero _)⟩
  rintro c _ hc ⟨S2, rfl, f2, k2, B2, j2, w2⟩
  have hs2' := f2.sh.mpr hs
  have hm2 : MW S2 := hm.fr f2 (by decide) (by decide)
  have e47 : jI S2 47 = jI S 47 := f2.I 47 (by decide)
  unfold bX10_nextRock_14
  simp only [shA_41, shR_41_0, shr_41_0, shR_41_2, shr_41_2, hs2', ne_eq, not_false_eq_true, not_true_eq_false, reduceCtorEq, Nat.reduceEqDiff, forall_eq, true_and, and_true, true_implies, forall_const, implies_true, List.mem_cons, List.not_mem_nil, or_false, false_or, or_self, if_true, if_false, reduceIte, Nat.reduceAdd, Nat.reduceMul, Nat.reduceLT, false_implies, Decidable.not_not, bI_eq0, bI_eq1, upd_at, updL_at, Nat.succ_ne_zero, Int32.reduceToNatClampNeg, eq_self, i01, i10]
  rw [li_9, nI_le' (by omega) (by omega)]
  refine ⟨fun z => ?_, fun z => ?_⟩
  · have : c = 9 := by omega
    subst this
    have e9 : gWt (jI S 47) n a 9 = gWt (jI S 47) n a (gR (jI S 47)) := by
      have := gWt_hi (row := jI S 47) (n := n) (a := a) (9 - gR (jI S 47))
      rw [show gR (jI S 47) + (9 - gR (jI S 47)) = 9 by omega] at this; exact this
    have hb := gWt_b (row := jI S 47) (n := n) (a := a) 9
    rw [e9] at hb ⊢
    have emax : (if (1 : Int32) < nI (10 + gWt (jI S 47) n a (gR (jI S 47))) then nI (10 + gWt (jI S 47) n a (gR (jI S 47))) else 1) = nI (10 + gWt (jI S 47) n a (gR (jI S 47))) := by
      rw [if_pos]; rw [li_1, nI_lt' (by omega) (by omega)]; omega
    have hdl : gDr s ≤ 1000003 := by unfold gDr; omega
    have nz : ¬ (nI (10 + gWt (jI S 47) n a (gR (jI S 47)))).toInt64 = 0 := by
      rw [nI_toL (by omega), show (0 : Int64) = lN 0 from rfl, lN_eq' (by omega) (by omega)]; omega
    unfold wX10_draw
    simp only [shA_41, shR_41_0, shr_41_0, shR_41_2, shr_41_2, hs2', j2, dr_l hs2, emax, nz, jN_uI, jN_uJ, jN_uR, jK_uI, jK_uJ, jK_uR, jZ_uI, jZ_uJ, jZ_uR, jR_uI, jR_uJ, jr_uI, jr_uJ, jI_uJ, jI_uR, jJ_uI, jJ_uR, jI_uI_eq, jI_uI_ne, jJ_uJ_eq, jJ_uJ_ne, jSh_uI, jSh_uJ, jA_uI, jA_uJ, jA_uR, jI_uIf_eq, jI_uIf_ne, jJ_uIf, jR_uIf, jr_uIf, jZ_uIf, jSh_uIf, jA_uIf, ne_eq, not_false_eq_true, not_true_eq_false, reduceCtorEq, Nat.reduceEqDiff, forall_eq, true_and, and_true, true_implies, forall_const, implies_true, List.mem_cons, List.not_mem_nil, or_false, false_or, or_self, if_true, if_false, reduceIte, Nat.reduceAdd, Nat.reduceMul, Nat.reduceLT, false_implies, Decidable.not_not, bI_eq0, bI_eq1, upd_at, updL_at, Nat.succ_ne_zero, Int32.reduceToNatClampNeg, eq_self, i01, i10]
    rw [dr_t hdl (by omega) (by omega)]
    refine ⟨by decide, ?_⟩
    generalize ht : gDr s % (10 + gWt (jI S 47) n a (gR (jI S 47))) = t at h ⊢
    have ht9 : t < 1000 := by rw [← ht]; have := Nat.mod_lt (gDr s) (show 10 + gWt (jI S 47) n a (gR (jI S 47)) > 0 by omega); omega
    have f3 : jFr [24, 25, 26, 27, 41, 43] S (uJ S2 41 3 (lN (gDr s))) := f2.uJ (by decide)
    have fin := fun q hq => h _ q f3 (k2.sJ (by decide)) (BC.fr (H := [41]) ((jFr.refl _ _).uJ (by decide)) (by decide) B2) (by simp only [jN_uI, jN_uJ, jN_uR, jK_uI, jK_uJ, jK_uR, jZ_uI, jZ_uJ, jZ_uR, jR_uI, jR_uJ, jr_uI, jr_uJ, jI_uJ, jI_uR, jJ_uI, jJ_uR, jI_uI_eq, jI_uI_ne, jJ_uJ_eq, jJ_uJ_ne, jSh_uI, jSh_uJ, jA_uI, jA_uJ, jA_uR, jI_uIf_eq, jI_uIf_ne, jJ_uIf, jR_uIf, jr_uIf, jZ_uIf, jSh_uIf, jA_uIf, ne_eq, not_false_eq_true, not_true_eq_false, reduceCtorEq, Nat.reduceEqDiff, forall_eq, true_and, and_true, true_implies, forall_const, implies_true, List.mem_cons, List.not_mem_nil, or_false, false_or, or_self, if_true, if_false, reduceIte, Nat.reduceAdd, Nat.reduceMul, Nat.reduceLT, false_implies, Decidable.not_not, bI_eq0, bI_eq1, upd_at, updL_at, Nat.succ_ne_zero, Int32.reduceToNatClampNeg, eq_self, i01, i10]) hq
    have w3 : ∀ p, p < 9 → jI (uJ S2 41 3 (lN (gDr s))) 43 p = nI (gWl (jI S 47) n a p) := fun p hp => by simp only [jN_uI, jN_uJ, jN_uR, jK_uI, jK_uJ, jK_uR, jZ_uI, jZ_uJ, jZ_uR, jR_uI, jR_uJ, jr_uI, jr_uJ, jI_uJ, jI_uR, jJ_uI, jJ_uR, jI_uI_eq, jI_uI_ne, jJ_uJ_eq, jJ_uJ_ne, jSh_uI, jSh_uJ, jA_uI, jA_uJ, jA_uR, jI_uIf_eq, jI_uIf_ne, jJ_uIf, jR_uIf, jr_uIf, jZ_uIf, jSh_uIf, jA_uIf]; exact w2 p hp
    generalize uJ S2 41 3 (lN (gDr s)) = S3 at f3 fin w3 ⊢
    have hs3 := f3.sh.mpr hs
    unfold wX10_nextRock_48
    refine jLoop.cnt 9 (fun c q => q = (41, nI a, nI (t - gWt (jI S 47) n a c), nI c, S3) ∧ gWt (jI S 47) n a c ≤ t) 0 (by omega) ?_ ⟨by rw [gWt]; rfl, by rw [gWt]; omega⟩
    rintro c _ hc ⟨rfl, hle⟩
    unfold bX10_nextRock_48
    simp only [shA_41, shA_43, shZ_43, shR_41_0, shr_41_0, shR_41_2, shr_41_2, hs3, ne_eq, not_false_eq_true, not_true_eq_false, reduceCtorEq, Nat.reduceEqDiff, forall_eq, true_and, and_true, true_implies, forall_const, implies_true, List.mem_cons, List.not_mem_nil, or_false, false_or, or_self, if_true, if_false, reduceIte, Nat.reduceAdd, Nat.reduceMul, Nat.reduceLT, false_implies, Decidable.not_not, bI_eq0, bI_eq1, upd_at, updL_at, Nat.succ_ne_zero, Int32.reduceToNatClampNeg, eq_self, i01, i10]
    rw [li_9, nI_le' (by omega) (by omega), nI_tn (by omega)]
    refine ⟨fun z2 => fin a (Or.inr ⟨?_, rfl⟩), fun z2 => ?_⟩
    · rw [show c = 9 by omega, e9] at hle; exact hle
    · have hw := gWl_b (jI S 47) n a c
      rw [w3 c (by omega), nI_le' (by omega) (by omega), nI_1]
      refine ⟨nI_in2 (by omega) (by omega), fun z3 => ⟨by omega, ?_, by rw [gWt]; omega⟩, fun z3 => fin c (Or.inl ⟨⟨by show t < gWt (jI S 47) n a (c + 1); rw [gWt]; omega, fun p hp w => ?_⟩, ?_⟩)⟩
      · rw [nI_sub z3, gWt, Nat.sub_sub]
      · have w : t < gWt (jI S 47) n a (p + 1) := w
        have := gWt_mono (row := jI S 47) (n := n) (a := a) (j := p + 1) (c - (p + 1))
        rw [show p + 1 + (c - (p + 1)) = c by omega] at this; omega
      · rcases Nat.lt_or_ge c (gR (jI S 47)) with l | l
        · exact l
        · rw [gWl_f (fun w => by have := w.2.1; omega)] at z3; omega
  · have hw := gWl_b (jI S 47) n a c
    have fin : ∀ S3, jFr [24, 25, 26, 27, 41, 43] S S3 → jFk 41 [3] S S3 → BC S3 → jJ S3 41 3 = lN s → jI S3 43 = jI S2 43 → ∀ v, v = nI (gWl (jI S 47) n a c) → wX10_nextRock_32 (fun l0 l1 l2 l3 l4 l5 l6 l7 S_1 => c < 9 ∧ ∃ S', (l0, l1, l2, l3, l4, l5, l6, l7, S_1) = (41, 1, 23, nI a, nI n, x, nI (10 + gWt (jI S 47) n a (c + 1)), nI (c + 1), S') ∧ jFr [24, 25, 26, 27, 41, 43] S S' ∧ jFk 41 [3] S S' ∧ BC S' ∧ jJ S' 41 3 = lN s ∧ ∀ p, p < c + 1 → jI S' 43 p = nI (gWl (jI S 47) n a p)) 41 1 23 (nI a) (nI n) x (nI (10 + gWt (jI S 47) n a c)) (nI c) v (nI c) 43 S3 Q := by
      intro S3 f3 k3 B3 j3 e43 v hv
      have hs3 := f3.sh.mpr hs
      unfold wX10_nextRock_32
      simp only [shA_41, shA_43, shZ_43, shR_41_0, shr_41_0, shR_41_2, shr_41_2, hs3, nI_1, jN_uI, jN_uJ, jN_uR, jK_uI, jK_uJ, jK_uR, jZ_uI, jZ_uJ, jZ_uR, jR_uI, jR_uJ, jr_uI, jr_uJ, jI_uJ, jI_uR, jJ_uI, jJ_uR, jI_uI_eq, jI_uI_ne, jJ_uJ_eq, jJ_uJ_ne, jSh_uI, jSh_uJ, jA_uI, jA_uJ, jA_uR, jI_uIf_eq, jI_uIf_ne, jJ_uIf, jR_uIf, jr_uIf, jZ_uIf, jSh_uIf, jA_uIf, ne_eq, not_false_eq_true, not_true_eq_false, reduceCtorEq, Nat.reduceEqDiff, forall_eq, true_and, and_true, true_implies, forall_const, implies_true, List.mem_cons, List.not_mem_nil, or_false, false_or, or_self, if_true, if_false, reduceIte, Nat.reduceAdd, Nat.reduceMul, Nat.reduceLT, false_implies, Decidable.not_not, bI_eq0, bI_eq1, upd_at, updL_at, Nat.succ_ne_zero, Int32.reduceToNatClampNeg, eq_self, i01, i10]
      rw [hv, nI_tn (by omega), nI_add]
      refine ⟨nI_in2 (by omega) (by omega), nI_in2 (by omega) (by omega), by omega, _, by rw [gWt, Nat.add_assoc], f3.uI (by decide), k3.oI (by decide), BC.fr (H := [43]) ((jFr.refl _ _).uI (by decide)) (by decide) B3, by simp only [jN_uI, jN_uJ, jN_uR, jK_uI, jK_uJ, jK_uR, jZ_uI, jZ_uJ, jZ_uR, jR_uI, jR_uJ, jr_uI, jr_uJ, jI_uJ, jI_uR, jJ_uI, jJ_uR, jI_uI_eq, jI_uI_ne, jJ_uJ_eq, jJ_uJ_ne, jSh_uI, jSh_uJ, jA_uI, jA_uJ, jA_uR, jI_uIf_eq, jI_uIf_ne, jJ_uIf, jR_uIf, jr_uIf, jZ_uIf, jSh_uIf, jA_uIf]; exact j3, fun p hp => ?_⟩
      simp only [jN_uI, jN_uJ, jN_uR, jK_uI, jK_uJ, jK_uR, jZ_uI, jZ_uJ, jZ_uR, jR_uI, jR_uJ, jr_uI, jr_uJ, jI_uJ, jI_uR, jJ_uI, jJ_uR, jI_uI_eq, jI_uI_ne, jJ_uJ_eq, jJ_uJ_ne, jSh_uI, jSh_uJ, jA_uI, jA_uJ, jA_uR, jI_uIf_eq, jI_uIf_ne, jJ_uIf, jR_uIf, jr_uIf, jZ_uIf, jSh_uIf, jA_uIf, ne_eq, not_false_eq_true, not_true_eq_false, reduceCtorEq, Nat.reduceEqDiff, forall_eq, true_and, and_true, true_implies, forall_const, implies_true, List.mem_cons, List.not_mem_nil, or_false, false_or, or_self, if_true, if_false, reduceIte, Nat.reduceAdd, Nat.reduceMul, Nat.reduceLT, false_implies, Decidable.not_not, bI_eq0, bI_eq1, upd_at, updL_at, Nat.succ_ne_zero, Int32.reduceToNatClampNeg, eq_self, i01, i10]
      split
      · rename_i e; rw [e]
      · rw [e43]; exact w2 p (by omega)
    refine sX11_hasBit (by omega) (fun hb => ⟨fun q => absurd q (by decide), fun _ => ⟨shA_23 hs2', ?_⟩⟩) (fun hb => ⟨fun _ => fin S2 f2 k2 B2 j2 rfl 0 ?_, fun q => absurd rfl q⟩)
    · have hg := (l1 c (by omega)).mp hb
      refine sX1_willFor hs2' hm2 (by rw [e47]; exact ha) (by rw [e47]; exact hg.2.1) (by omega) (fun S3 f3 => ?_)
      rw [e47]
      exact fin S3 (f2.tr (f3.mono (by decide))) (k2.tr (jFk.of f3 (by decide))) (B2.fr f3 (by decide)) (by rw [f3.J 41 (by decide)]; exact j2) (f3.I 43 (by decide)) _ (gWl_t hg).1
    · rw [gWl_f (fun w => hb ((l1 c (by omega)).mpr w))]; rfl
/-- the year on paper, of the class -/
def yrOk (row : Nat → Int32) (seed r0 m : Nat) (f : Nat → Int32) : Prop := ∀ k, k ≤ m → ∃ s v, gYk row seed r0 k s v ∧ f k = nI v
theorem sX10_pass {S : JS} {Q : JS → Prop} {seed r : Nat} (hs : jSh S) (hm : MW S) (hB : BC S) (hr : r < gR (jI S 47)) (hse : seed ≤ 1000000) (h : ∀ S', jFr [24, 25, 26, 27, 41, 42, 43] S S' → BC S' → jI S' 41 1 = 1 → yrOk (jI S 47) seed r 59 (jI S' 42) → Q S') : wX10_pass 41 1 23 (nI seed) (nI r) S Q := by
  have hR := hm.1.1.2.1
  unfold wX10_pass
  simp only [shA_41, shA_42, shZ_42, shR_41_0, shr_41_0, shR_41_2, shr_41_2, hs, jN_uI, jN_uJ, jN_uR, jK_uI, jK_uJ, jK_uR, jZ_uI, jZ_uJ, jZ_uR, jR_uI, jR_uJ, jr_uI, jr_uJ, jI_uJ, jI_uR, jJ_uI, jJ_uR, jI_uI_eq, jI_uI_ne, jJ_uJ_eq, jJ_uJ_ne, jSh_uI, jSh_uJ, jA_uI, jA_uJ, jA_uR, jI_uIf_eq, jI_uIf_ne, jJ_uIf, jR_uIf, jr_uIf, jZ_uIf, jSh_uIf, jA_uIf, ne_eq, not_false_eq_true, not_true_eq_false, reduceCtorEq, Nat.reduceEqDiff, forall_eq, true_and, and_true, true_implies, forall_const, implies_true, List.mem_cons, List.not_mem_nil, or_false, false_or, or_self, if_true, if_false, reduceIte, Nat.reduceAdd, Nat.reduceMul, Nat.reduceLT, false_implies, Decidable.not_not, bI_eq0, bI_eq1, upd_at, updL_at, Nat.succ_ne_zero, Int32.reduceToNatClampNeg, eq_self, i01, i10]
  refine ⟨nI_in2 (n := 0) (by omega) (by omega), ?_⟩
  rw [nI_l (by omega)]
  have f0 : jFr [24, 25, 26, 27, 41, 42, 43] S (uI (uJ (uI S 41 1 1) 41 3 (lN seed)) 42 0 (nI r)) := (((jFr.refl _ _).uI (by decide)).uJ (by decide)).uI (by decide)
  have fb : jFr [41, 42] S (uI (uJ (uI S 41 1 1) 41 3 (lN seed)) 42 0 (nI r)) := (((jFr.refl _ _).uI (by decide)).uJ (by decide)).uI (by decide)
  unfold wX10_pass_14
  refine jLoop.cnt 59 (fun k q => ∃ S' s v, q = (41, 1, 23, nI k, S') ∧ jFr [24, 25, 26, 27, 41, 42, 43] S S' ∧ BC S' ∧ jI S' 41 1 = 1 ∧ jJ S' 41 3 = lN s ∧ gYk (jI S 47) seed r k s v ∧ jI S' 42 k = nI v ∧ yrOk (jI S 47) seed r k (jI S' 42)) 0 (by omega) ?_ ⟨_, seed, r, rfl, f0, hB.fr fb (by decide), by simp only [jN_uI, jN_uJ, jN_uR, jK_uI, jK_uJ, jK_uR, jZ_uI, jZ_uJ, jZ_uR, jR_uI, jR_uJ, jr_uI, jr_uJ, jI_uJ, jI_uR, jJ_uI, jJ_uR, jI_uI_eq, jI_uI_ne, jJ_uJ_eq, jJ_uJ_ne, jSh_uI, jSh_uJ, jA_uI, jA_uJ, jA_uR, jI_uIf_eq, jI_uIf_ne, jJ_uIf, jR_uIf, jr_uIf, jZ_uIf, jSh_uIf, jA_uIf, ne_eq, not_false_eq_true, not_true_eq_false, reduceCtorEq, Nat.reduceEqDiff, forall_eq, true_and, and_true, true_implies, forall_const, implies_true, List.mem_cons, List.not_mem_nil, or_false, false_or, or_self, if_true, if_false, reduceIte, Nat.reduceAdd, Nat.reduceMul, Nat.reduceLT, false_implies, Decidable.not_not, bI_eq0, bI_eq1, upd_at, updL_at, Nat.succ_ne_zero, Int32.reduceToNatClampNeg, eq_self, i01, i10], by simp only [jN_uI, jN_uJ, jN_uR, jK_uI, jK_uJ, jK_uR, jZ_uI, jZ_uJ, jZ_uR, jR_uI, jR_uJ, jr_uI, jr_uJ, jI_uJ, jI_uR, jJ_uI, jJ_uR, jI_uI_eq, jI_uI_ne, jJ_uJ_eq, jJ_uJ_ne, jSh_uI, jSh_uJ, jA_uI, jA_uJ, jA_uR, jI_uIf_eq, jI_uIf_ne, jJ_uIf, jR_uIf, jr_uIf, jZ_uIf, jSh_uIf, jA_uIf, ne_eq, not_false_eq_true, not_true_eq_false, reduceCtorEq, Nat.reduceEqDiff, forall_eq, true_and, and_true, true_implies, forall_const, implies_true, List.mem_cons, List.not_mem_nil, or_false, false_or, or_self, if_true, if_false, reduceIte, Nat.reduceAdd, Nat.reduceMul, Nat.reduceLT, false_implies, Decidable.not_not, bI_eq0, bI_eq1, upd_at, updL_at, Nat.succ_ne_zero, Int32.reduceToNatClampNeg, eq_self, i01, i10], ⟨rfl, rfl⟩, by simp only [jN_uI, jN_uJ, jN_uR, jK_uI, jK_uJ, jK_uR, jZ_uI, jZ_uJ, jZ_uR, jR_uI, jR_uJ, jr_uI, jr_uJ, jI_uJ, jI_uR, jJ_uI, jJ_uR, jI_uI_eq, jI_uI_ne, jJ_uJ_eq, jJ_uJ_ne, jSh_uI, jSh_uJ, jA_uI, jA_uJ, jA_uR, jI_uIf_eq, jI_uIf_ne, jJ_uIf, jR_uIf, jr_uIf, jZ_uIf, jSh_uIf, jA_uIf, ne_eq, not_false_eq_true, not_true_eq_false, reduceCtorEq, Nat.reduceEqDiff, forall_eq, true_and, and_true, true_implies, forall_const, implies_true, List.mem_cons, List.not_mem_nil, or_false, false_or, or_self, if_true, if_false, reduceIte, Nat.reduceAdd, Nat.reduceMul, Nat.reduceLT, false_implies, Decidable.not_not, bI_eq0, bI_eq1, upd_at, updL_at, Nat.succ_ne_zero, Int32.reduceToNatClampNeg, eq_self, i01, i10], fun k hk => ⟨seed, r, by rw [show k = 0 by omega]; exact ⟨rfl, rfl⟩, by simp only [jN_uI, jN_uJ, jN_uR, jK_uI, jK_uJ, jK_uR, jZ_uI, jZ_uJ, jZ_uR, jR_uI, jR_uJ, jr_uI, jr_uJ, jI_uJ, jI_uR, jJ_uI, jJ_uR, jI_uI_eq, jI_uI_ne, jJ_uJ_eq, jJ_uJ_ne, jSh_uI, jSh_uJ, jA_uI, jA_uJ, jA_uR, jI_uIf_eq, jI_uIf_ne, jJ_uIf, jR_uIf, jr_uIf, jZ_uIf, jSh_uIf, jA_uIf, ne_eq, not_false_eq_true, not_true_eq_false, reduceCtorEq, Nat.reduceEqDiff, forall_eq, true_and, and_true, true_implies, forall_const, implies_true, List.mem_cons, List.not_mem_nil, or_false, false_or, or_self, if_true, if_false, reduceIte, Nat.reduceAdd, Nat.reduceMul, Nat.reduceLT, false_implies, Decidable.not_not, bI_eq0, bI_eq1, upd_at, updL_at, Nat.succ_ne_zero, Int32.reduceToNatClampNeg, eq_self, i01, i10]; rw [if_pos (by omega)]⟩⟩
  rintro k _ hk ⟨S1, s, v, rfl, f1, B1, i1, j1, y1, y2, y3⟩
  have hs1 := f1.sh.mpr hs
  have hm1 : MW S1 := hm.fr f1 (by decide) (by decide)
  have e47 : jI S1 47 = jI S 47 := f1.I 47 (by decide)
  obtain ⟨vR, sb⟩ := gYk_lt hr (by omega) y1
  unfold bX10_pass_14
  simp only [shA_41, shA_42, shZ_42, shR_41_0, shr_41_0, shR_41_2, shr_41_2, hs1, ne_eq, not_false_eq_true, not_true_eq_false, reduceCtorEq, Nat.reduceEqDiff, forall_eq, true_and, and_true, true_implies, forall_const, implies_true, List.mem_cons, List.not_mem_nil, or_false, false_or, or_self, if_true, if_false, reduceIte, Nat.reduceAdd, Nat.reduceMul, Nat.reduceLT, false_implies, Decidable.not_not, bI_eq0, bI_eq1, upd_at, updL_at, Nat.succ_ne_zero, Int32.reduceToNatClampNeg, eq_self, i01, i10]
  rw [li_59, nI_le' (by omega) (by omega), nI_tn (by omega), y2]
  refine ⟨fun z => ?_, fun z => ⟨nI_in2 (by omega) (by omega), ?_⟩⟩
  · have : k = 59 := by omega
    subst this; exact h S1 f1 B1 i1 y3
  · refine sX10_nextRock hs1 hm1 B1 (by rw [e47]; exact vR) (by omega) j1 sb (fun S2 q f2 k2 B2 j2 q2 => ?_)
    rw [e47] at q2
    have hs2 := f2.sh.mpr hs1
    simp only [shA_42, shZ_42, hs2, nI_1, ne_eq, not_false_eq_true, not_true_eq_false, reduceCtorEq, Nat.reduceEqDiff, forall_eq, true_and, and_true, true_implies, forall_const, implies_true, List.mem_cons, List.not_mem_nil, or_false, false_or, or_self, if_true, if_false, reduceIte, Nat.reduceAdd, Nat.reduceMul, Nat.reduceLT, false_implies, Decidable.not_not, bI_eq0, bI_eq1, upd_at, updL_at, Nat.succ_ne_zero, Int32.reduceToNatClampNeg, eq_self, i01, i10]
    rw [nI_tn (by omega)]
    have yk : gYk (jI S 47) seed r (k + 1) (gDr s) q := ⟨s, v, y1, rfl, q2⟩
    refine ⟨nI_in2 (by omega) (by omega), by omega, _, gDr s, q, rfl, (f1.tr (f2.mono (by decide))).uI (by decide), BC.fr (H := [42]) ((jFr.refl _ _).uI (by decide)) (by decide) B2, by simp only [jN_uI, jN_uJ, jN_uR, jK_uI, jK_uJ, jK_uR, jZ_uI, jZ_uJ, jZ_uR, jR_uI, jR_uJ, jr_uI, jr_uJ, jI_uJ, jI_uR, jJ_uI, jJ_uR, jI_uI_eq, jI_uI_ne, jJ_uJ_eq, jJ_uJ_ne, jSh_uI, jSh_uJ, jA_uI, jA_uJ, jA_uR, jI_uIf_eq, jI_uIf_ne, jJ_uIf, jR_uIf, jr_uIf, jZ_uIf, jSh_uIf, jA_uIf, ne_eq, not_false_eq_true, not_true_eq_false, reduceCtorEq, Nat.reduceEqDiff, forall_eq, true_and, and_true, true_implies, forall_const, implies_true, List.mem_cons, List.not_mem_nil, or_false, false_or, or_self, if_true, if_false, reduceIte, Nat.reduceAdd, Nat.reduceMul, Nat.reduceLT, false_implies, Decidable.not_not, bI_eq0, bI_eq1, upd_at, updL_at, Nat.succ_ne_zero, Int32.reduceToNatClampNeg, eq_self, i01, i10]; rw [k2.I 1 (by decide)]; exact i1, by simp only [jN_uI, jN_uJ, jN_uR, jK_uI, jK_uJ, jK_uR, jZ_uI, jZ_uJ, jZ_uR, jR_uI, jR_uJ, jr_uI, jr_uJ, jI_uJ, jI_uR, jJ_uI, jJ_uR, jI_uI_eq, jI_uI_ne, jJ_uJ_eq, jJ_uJ_ne, jSh_uI, jSh_uJ, jA_uI, jA_uJ, jA_uR, jI_uIf_eq, jI_uIf_ne, jJ_uIf, jR_uIf, jr_uIf, jZ_uIf, jSh_uIf, jA_uIf, ne_eq, not_false_eq_true, not_true_eq_false, reduceCtorEq, Nat.reduceEqDiff, forall_eq, true_and, and_true, true_implies, forall_const, implies_true, List.mem_cons, List.not_mem_nil, or_false, false_or, or_self, if_true, if_false, reduceIte, Nat.reduceAdd, Nat.reduceMul, Nat.reduceLT, false_implies, Decidable.not_not, bI_eq0, bI_eq1, upd_at, updL_at, Nat.succ_ne_zero, Int32.reduceToNatClampNeg, eq_self, i01, i10]; exact j2, yk, by simp only [jN_uI, jN_uJ, jN_uR, jK_uI, jK_uJ, jK_uR, jZ_uI, jZ_uJ, jZ_uR, jR_uI, jR_uJ, jr_uI, jr_uJ, jI_uJ, jI_uR, jJ_uI, jJ_uR, jI_uI_eq, jI_uI_ne, jJ_uJ_eq, jJ_uJ_ne, jSh_uI, jSh_uJ, jA_uI, jA_uJ, jA_uR, jI_uIf_eq, jI_uIf_ne, jJ_uIf, jR_uIf, jr_uIf, jZ_uIf, jSh_uIf, jA_uIf, ne_eq, not_false_eq_true, not_true_eq_false, reduceCtorEq, Nat.reduceEqDiff, forall_eq, true_and, and_true, true_implies, forall_const, implies_true, List.mem_cons, List.not_mem_nil, or_false, false_or, or_self, if_true, if_false, reduceIte, Nat.reduceAdd, Nat.reduceMul, Nat.reduceLT, false_implies, Decidable.not_not, bI_eq0, bI_eq1, upd_at, updL_at, Nat.succ_ne_zero, Int32.reduceToNatClampNeg, eq_self, i01, i10], fun m hm => ?_⟩
    simp only [jN_uI, jN_uJ, jN_uR, jK_uI, jK_uJ, jK_uR, jZ_uI, jZ_uJ, jZ_uR, jR_uI, jR_uJ, jr_uI, jr_uJ, jI_uJ, jI_uR, jJ_uI, jJ_uR, jI_uI_eq, jI_uI_ne, jJ_uJ_eq, jJ_uJ_ne, jSh_uI, jSh_uJ, jA_uI, jA_uJ, jA_uR, jI_uIf_eq, jI_uIf_ne, jJ_uIf, jR_uIf, jr_uIf, jZ_uIf, jSh_uIf, jA_uIf, ne_eq, not_false_eq_true, not_true_eq_false, reduceCtorEq, Nat.reduceEqDiff, forall_eq, true_and, and_true, true_implies, forall_const, implies_true, List.mem_cons, List.not_mem_nil, or_false, false_or, or_self, if_true, if_false, reduceIte, Nat.reduceAdd, Nat.reduceMul, Nat.reduceLT, false_implies, Decidable.not_not, bI_eq0, bI_eq1, upd_at, updL_at, Nat.succ_ne_zero, Int32.reduceToNatClampNeg, eq_self, i01, i10]
    split
    · rename_i e; subst e; exact ⟨_, _, yk, rfl⟩
    · rw [f2.I 42 (by decide)]; exact y3 m (by omega)
def gHd (w : Nat → Nat) : Nat → Nat
  | 0 => 0
  | k + 1 => gHd w k ||| 2 ^ w k
theorem gHd_lt {w : Nat → Nat} : ∀ {k : Nat}, (∀ j, j < k → w j < 9) → gHd w k < 512
  | 0, _ => by rw [gHd]; omega
  | k + 1, h => by rw [gHd]; exact or_lt (gHd_lt (fun j hj => h j (by omega))) (pow_lt (h k (by omega)))
def pcn (x : Nat) : Nat → Nat
  | 0 => 0
  | k + 1 => pcn x k + if x.testBit k then 1 else 0
def bce (p : Int32) : Int32 :=
  let x1 := p - ((jushr p 1) &&& 1431655765)
  let x2 := (x1 &&& 858993459) + ((jushr x1 2) &&& 858993459)
  let x3 := (x2 + (jushr x2 4)) &&& 252645135
  let x4 := x3 + (jushr x3 8)
  let x5 := x4 + (jushr x4 16)
  x5 &&& 63
theorem bce_eq : ∀ x, x < 512 → bce (nI x) = nI (pcn x 9) := by decide +kernel
theorem pcn_b (x : Nat) : ∀ k, pcn x k ≤ k
  | 0 => Nat.le_refl _
  | k + 1 => by have := pcn_b x k; rw [pcn]; split <;> omega
theorem sX10_rocksHad {S : JS} {Q : Int32 → JS → Prop} {w : Nat → Nat} (hs : jSh S) (hw : ∀ k, k < 60 → w k < 9 ∧ jI S 42 k = nI (w k)) (h : Q (nI (pcn (gHd w 60) 9)) S) : wX10_rocksHad 41 S Q := by
  unfold wX10_rocksHad wX10_rocksHad_4
  refine jLoop.cnt 60 (fun k q => q = (41, nI (gHd w k), nI k, S)) 0 (by omega) ?_ rfl
  rintro k _ hk rfl
  unfold bX10_rocksHad_4
  simp only [shA_41, shA_42, shZ_42, shR_41_0, shr_41_0, shR_41_2, shr_41_2, hs, ne_eq, not_false_eq_true, not_true_eq_false, reduceCtorEq, Nat.reduceEqDiff, forall_eq, true_and, and_true, true_implies, forall_const, implies_true, List.mem_cons, List.not_mem_nil, or_false, false_or, or_self, if_true, if_false, reduceIte, Nat.reduceAdd, Nat.reduceMul, Nat.reduceLT, false_implies, Decidable.not_not, bI_eq0, bI_eq1, upd_at, updL_at, Nat.succ_ne_zero, Int32.reduceToNatClampNeg, eq_self, i01, i10]
  rw [li_60, nI_le' (by omega) (by omega), nI_tn (by omega)]
  refine ⟨fun z => ?_, fun z => ?_⟩
  · have : k = 60 := by omega
    subst this
    have := bce_eq _ (gHd_lt (w := w) (k := 60) (fun j hj => (hw j hj).1))
    unfold wJ6_bitCount_0f7a4
    rw [← this] at h
    intro a ha b hb c hc d hd e he
    subst ha hb hc hd he
    exact h
  · obtain ⟨w1, w2⟩ := hw k (by omega)
    rw [w2, one_shl _ (by omega), nx_or, nI_1]
    exact ⟨nI_in2 (by omega) (by omega), by omega, by rw [gHd]⟩
